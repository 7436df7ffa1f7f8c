/** What the tests by hand share: how an answer is held against the one due, and kitchens to ask. */
class Checks {
    static final int MAX = Integer.MAX_VALUE, MIN = Integer.MIN_VALUE;
    static final int[] FAR = {MIN, MIN + 1, -1000000, 1000000, MAX - 1, MAX};
    static final int NONE = -1, BAD = -2, NO = -3, FULL = -4;
    static final int COOK = 0, LEFTY = 1, APPRENTICE = 2, MASTER = 3, STRIKER = 4, THUMB = 5;

    private static String tested = "";
    private static int checks;
    private static int wrong;

    /** A call of one object, so that what it leaves behind can be looked at. */
    interface Call {
        long on(CookHands x);
    }

    /** What the checks behind this are of: told with an answer that is wrong. */
    static void of(String what) {
        tested = what;
    }

    static void due(long want, long got) {
        checks++;
        if (got != want) {
            wrong++;
            System.out.println(tested + ": answered " + got + ", due is " + want + " " + where());
        }
    }

    private static String where() {
        StringBuilder lines = new StringBuilder();
        for (StackTraceElement at : new Throwable().getStackTrace()) {
            if (!at.getClassName().equals("Checks") && !at.getMethodName().equals("main")) {
                lines.append(lines.length() == 0 ? "" : " < ").append(at.getFileName()).append(':').append(at.getLineNumber());
            }
        }
        return "(" + lines + ")";
    }

    static void end(String what) {
        System.out.println(checks + " checks of " + what + ", " + wrong + " wrong");
        System.exit(wrong == 0 ? 0 : 1);
    }

    // ---- kitchens

    static CookHands kitchen(int... kinds) {
        CookHands x = new CookHands();
        for (int kind : kinds) {
            x.cook(kind, 1);
        }
        return x;
    }

    /** One DISH: its STEPS by four numbers each. */
    static CookHands withDish(CookHands x, int... steps) {
        int dish = x.dish();
        for (int i = 0; i + 3 < steps.length; i += 4) {
            x.step(dish, steps[i], steps[i + 1], steps[i + 2], steps[i + 3]);
        }
        return x;
    }

    /** What soonest answers for one STEP of a minute by these COOKS. */
    static int soonestOf(int right, int left, int knives, int... kinds) {
        return withDish(kitchen(kinds), right, left, knives, 1).soonest();
    }

    /** Three DISHES of three STEPS of five minutes by a RIGHT hand each: the longest there can be. */
    static CookHands longest(int... kinds) {
        CookHands x = kitchen(kinds);
        for (int i = 0; i < 3; i++) {
            withDish(x, 1, 0, 0, 5, 1, 0, 0, 5, 1, 0, 0, 5);
        }
        return x;
    }

    static CookHands threeOf(int minutes, int... kinds) {
        CookHands x = kitchen(kinds);
        for (int i = 0; i < 3; i++) {
            withDish(x, 1, 0, 0, minutes);
        }
        return x;
    }

    /** Two COOKS for so many minutes. */
    static CookHands shared(int minutes) {
        CookHands x = kitchen(COOK, COOK);
        int rest = minutes;
        for (int i = 0; i < 3; i++) {
            x.dish();
            for (int k = 0; k < 3 && rest > 0; k++) {
                x.step(i, 2, 0, 0, Math.min(5, rest));
                rest -= Math.min(5, rest);
            }
        }
        return x;
    }

    static CookHands begun() {
        CookHands x = withDish(kitchen(COOK), 1, 0, 0, 3);
        x.cooked(1);
        x.cooked(1);
        return x;
    }

    static int type(CookHands x, String text) {
        int length = -1;
        for (int i = 0; i < text.length(); i++) {
            length = x.type(text.charAt(i), 1);
        }
        return length;
    }

    /** As type, by eight bytes a call. */
    static int typeByEight(CookHands x, String text) {
        int length = -1;
        for (int i = 0; i < text.length(); i += 8) {
            int n = Math.min(8, text.length() - i);
            long v = 0;
            for (int k = 0; k < n; k++) {
                v = v << 8 | text.charAt(i + k);
            }
            length = x.type(v, n);
        }
        return length;
    }

    static int read(CookHands x, String card) {
        x.clear();
        typeByEight(x, card);
        return x.read();
    }

    static int read(String card) {
        return read(new CookHands(), card);
    }

    // ---- several answers at once

    static void statusDue(CookHands x, int bad, int no, int full) {
        due(bad, x.status(0));
        due(no, x.status(1));
        due(full, x.status(2));
    }

    static void fractionDue(CookHands x, int above, int below) {
        due(above == 0 ? 0 : 1, x.sign(0));
        due(above == 0 ? 0 : 1, x.sign(1));
        due(1, x.sign(2));
        due(above == 0 ? -1 : above, x.limb(0, 0));
        due(below, x.limb(1, 0));
        due(-1, x.limb(1, 1));
    }

    /** The row of HANDS of these DISHES, and that it ends there. */
    static void handsDue(CookHands x, int dishes, int... cooks) {
        for (int j = 0; j < cooks.length; j++) {
            due(cooks[j], x.whose(dishes, j));
        }
        due(-5, x.whose(dishes, cooks.length));
    }

    /** SOONEST, the ROW, and that it ends there. */
    static void rowDue(CookHands x, int... sets) {
        due(sets.length, x.soonest());
        for (int i = 0; i < sets.length; i++) {
            due(sets[i], x.row(i));
        }
        due(-5, x.row(sets.length));
    }

    static long digestOf(int... values) {
        long h = 709;
        for (int v : values) {
            h = 31 * h + v;
        }
        return h;
    }

    // ---- how a call is held against the state

    private static long[] kept(CookHands x) {
        return new long[] {x.digest(), x.soonest(), x.row(0), x.cold(60), x.menu(60), x.wages(), x.whose(0, 0)};
    }

    private static void sameDue(long[] before, CookHands x) {
        long[] behind = kept(x);
        for (int i = 0; i < before.length; i++) {
            due(before[i], behind[i]);
        }
    }

    /** Refused for that reason: that answer, one more in STATUS, nothing else changed. */
    static void refused(CookHands x, int reason, int answer, Call call) {
        long[] before = kept(x);
        int[] status = {x.status(0), x.status(1), x.status(2)};
        due(answer, call.on(x));
        status[-2 - reason]++;
        statusDue(x, status[0], status[1], status[2]);
        sameDue(before, x);
    }

    static void refused(CookHands x, int reason, Call call) {
        refused(x, reason, reason, call);
    }

    /** Not refused, and it changes nothing. */
    static void asked(CookHands x, long answer, Call call) {
        long[] before = kept(x);
        int[] status = {x.status(0), x.status(1), x.status(2)};
        due(answer, call.on(x));
        statusDue(x, status[0], status[1], status[2]);
        sameDue(before, x);
    }
}
