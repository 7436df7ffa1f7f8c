/**
 * 1 COOKS 0 .. : what it is, COOKS, DISHES, STEPS, minutes, HANDS.
 * Each sentence of the document there that names a boundary case, by its own
 * words, with the answers due at the boundary and on either side of it.
 */
public final class KitchenBoundariesTest extends Checks {
    public static void main(String[] args) {
        anObject();
        cooks();
        dishesAndSteps();
        minutesAndHands();
        end("the boundaries of kitchens");
    }

    private static void anObject() {
        of("An object is used for at most 512 calls after it has been made");
        CookHands x = new CookHands();
        for (int i = 1; i <= 511; i++) {
            due(NO, x.undo());
        }
        due(511, x.status(1));
        CookHands y = longest(COOK);
        for (int i = 13; i < 512; i++) {
            boolean on = (i - 13) / 45 % 2 == 0;
            int minute = (i - 13) % 45;
            due(on ? (minute + 1) / 15 : 1, on ? y.cooked(1 << minute / 15) : y.undo());
        }
        of("As told; nobody, no DISHES");
        CookHands z = new CookHands();
        due(0, z.count(0));
        due(0, z.count(1));
        due(0, z.count(3));
        due(0, z.count(4));
        statusDue(z, 0, 0, 0);
        fractionDue(z, 0, 1);
        due(BAD, z.hands(0, 0));
        due(BAD, z.state(0, 0));
        due(BAD, z.letGo(0));
        due(BAD, z.step(0, 1, 0, 0, 1));
    }

    private static void cooks() {
        of("COOKS 0 .. 5, as they come");
        CookHands x = new CookHands();
        for (int i = 0; i < 6; i++) {
            refused(x, BAD, k -> k.cook(6, 0));
            due(i, x.cook(5 - i, i));
            due(i + 1, x.count(0));
        }
        for (int i = 0; i < 6; i++) {
            due(kitchen(5 - i).hands(0, 0), x.hands(i, 0));
            due(kitchen(5 - i).hands(0, 1), x.hands(i, 1));
        }
        of("FULL: 6");
        refused(x, FULL, k -> k.cook(0, 0));
        refused(x, BAD, k -> k.cook(6, 0));
        refused(x, BAD, k -> k.cook(0, 10));
        kindsAndWages();
        kindsOfHands();
        knivesOfKinds();
        strikeTold();
        knivesTold();
        handsAsked();
    }

    private static void kindsAndWages() {
        of("a KIND");
        CookHands x = kitchen(COOK);
        for (int kind : new int[] {-2, -1, 6, 7, 256, 65536}) {
            refused(x, BAD, k -> k.cook(kind, 0));
        }
        of("a WAGE (0 .. 9");
        for (int wage : new int[] {-2, -1, 10, 11, 256, 65536}) {
            refused(x, BAD, k -> k.cook(0, wage));
        }
        for (int far : FAR) {
            refused(x, BAD, k -> k.cook(far, 0));
            refused(x, BAD, k -> k.cook(0, far));
        }
        due(1, x.cook(0, 0));
        due(2, x.cook(0, 9));
        of("for each minute in which one works)");
        for (int wage = 0; wage <= 9; wage++) {
            CookHands y = new CookHands();
            y.cook(COOK, wage);
            y.cook(COOK, 9);
            withDish(y, 1, 0, 0, 3);
            due(3 * wage, y.wages());
            withDish(y, 2, 0, 0, 2);
            due(5 * wage + 18, y.wages());
        }
    }

    private static void kindsOfHands() {
        of("have so many RIGHT, LEFT hands");
        int[] right = {1, 0, 1, 1, 1, 1};
        int[] left = {0, 1, 0, 1, 0, 1};
        int[] both = {0, 0, 0, 1, 0, 0};
        for (int kind = 0; kind < 6; kind++) {
            CookHands x = kitchen(kind);
            asked(x, right[kind], k -> k.hands(0, 0));
            asked(x, left[kind], k -> k.hands(0, 1));
            due(right[kind] == 1 ? 1 : NONE, soonestOf(1, 0, 0, kind));
            due(left[kind] == 1 ? 1 : NONE, soonestOf(0, 1, 0, kind));
            due(NONE, soonestOf(2, 0, 0, kind));
            due(NONE, soonestOf(0, 2, 0, kind));
            due(both[kind] == 1 ? 1 : NONE, soonestOf(1, 1, 0, kind));
        }
        of("counts for a LEFT hand as well as for a RIGHT one (for one of both in a minute)");
        due(1, soonestOf(1, 1, 0, THUMB, THUMB));
        due(1, soonestOf(2, 0, 0, THUMB, THUMB));
        due(1, soonestOf(0, 2, 0, THUMB, THUMB));
        due(NONE, soonestOf(2, 1, 0, THUMB, THUMB));
        rowDue(withDish(withDish(kitchen(THUMB), 1, 0, 0, 1), 0, 1, 0, 1), 1, 2);
        rowDue(withDish(withDish(kitchen(MASTER), 1, 0, 0, 1), 0, 1, 0, 1), 3);
    }

    private static void knivesOfKinds() {
        of("but he holds no KNIFE");
        int[] holdsRight = {1, 0, 0, 1, 1, 0};
        int[] holdsLeft = {0, 1, 0, 1, 0, 0};
        for (int kind = 0; kind < 6; kind++) {
            due(holdsRight[kind] == 1 ? 1 : NONE, soonestOf(1, 0, 1, kind));
            due(holdsLeft[kind] == 1 ? 1 : NONE, soonestOf(0, 1, 1, kind));
        }
        due(1, soonestOf(2, 0, 1, APPRENTICE, COOK));
        due(NONE, soonestOf(2, 0, 2, APPRENTICE, COOK));
        due(NONE, soonestOf(2, 0, 1, APPRENTICE, THUMB));
        of("MASTER (under LEFTY): both");
        due(1, soonestOf(1, 1, 2, MASTER));
    }

    private static void strikeTold() {
        of("STRIKE: told or not (not at first)");
        CookHands x = kitchen(COOK, LEFTY, APPRENTICE, MASTER, STRIKER, THUMB);
        due(1, x.hands(STRIKER, 0));
        refused(x, NO, k -> k.strike(false));
        due(1, x.strike(true));
        of("STRIKER (under COOK): in a STRIKE none");
        for (int i = 0; i < 6; i++) {
            due(i == STRIKER ? 0 : kitchen(i).hands(0, 0), x.hands(i, 0));
            due(kitchen(i).hands(0, 1), x.hands(i, 1));
        }
        of("NO: it is so");
        refused(x, NO, k -> k.strike(true));
        due(1, x.strike(false));
        due(1, x.hands(STRIKER, 0));
        refused(x, NO, k -> k.strike(false));
        CookHands y = withDish(kitchen(STRIKER), 1, 0, 1, 1);
        due(1, y.soonest());
        y.strike(true);
        due(NONE, y.soonest());
        CookHands z = withDish(withDish(kitchen(STRIKER, LEFTY, COOK), 1, 0, 0, 1), 0, 1, 0, 1);
        handsDue(z, 1, 0);
        handsDue(z, 2, 1);
        z.strike(true);
        handsDue(z, 1, 2);
        handsDue(z, 2, 1);
    }

    private static void knivesTold() {
        of("KNIVES: 0 .. 6 (2 at first)");
        CookHands x = new CookHands();
        due(2, x.count(2));
        for (int n : new int[] {-2, -1, 7, 8, 256}) {
            refused(x, BAD, k -> k.knives(n));
        }
        for (int far : FAR) {
            refused(x, BAD, k -> k.knives(far));
        }
        of("KNIVES: how many there were");
        due(2, x.knives(0));
        due(0, x.knives(6));
        for (int n = 6; n > 0; n--) {
            due(n, x.knives(n));
            due(n, x.knives(n - 1));
            due(n - 1, x.count(2));
        }
        of("(2 at first)");
        due(1, soonestOf(2, 0, 2, COOK, COOK, COOK));
        due(NONE, soonestOf(3, 0, 3, COOK, COOK, COOK));
    }

    private static void handsAsked() {
        of("RIGHT (0), LEFT (1) hands of a COOK now ... BAD");
        CookHands x = kitchen(MASTER, THUMB);
        asked(x, 1, k -> k.hands(1, 0));
        asked(x, 1, k -> k.hands(1, 1));
        for (int what : new int[] {-1, 2, MIN, MAX}) {
            refused(x, BAD, k -> k.hands(0, what));
        }
        for (int cook : new int[] {-1, 2, 5, 6, MIN, MAX}) {
            refused(x, BAD, k -> k.hands(cook, 0));
        }
        refused(new CookHands(), BAD, k -> k.hands(0, 0));
    }

    private static void dishesAndSteps() {
        of("DISHES 0 .. 2, as they come");
        CookHands x = new CookHands();
        for (int i = 0; i < 3; i++) {
            int next = i;
            refused(x, BAD, k -> k.step(next, 1, 0, 0, 1));
            due(i, x.dish());
            due(i + 1, x.count(1));
            of("no STEPS at first");
            due(0, x.state(i, 0));
            due(0, x.state(i, 1));
            due(0, x.soonest());
            due(i + 1, Integer.bitCount(x.menu(0)));
            refused(x, NO, k -> k.cooked(1 << next));
            refused(x, BAD, -10, k -> k.whose(1 << next, 0));
        }
        of("FULL: 3");
        refused(x, FULL, k -> k.dish());
        of("STEPS of a DISH, 3 at most");
        for (int i = 0; i < 3; i++) {
            for (int k = 0; k < 3; k++) {
                due(k, x.step(i, 1, 0, 0, 1));
            }
        }
        for (int i = 0; i < 3; i++) {
            int dish = i;
            refused(x, FULL, k -> k.step(dish, 1, 0, 0, 1));
            refused(x, BAD, k -> k.step(dish, 1, 0, 0, 6));
        }
        of("one behind the other");
        rowDue(withDish(kitchen(COOK, COOK, COOK), 1, 0, 0, 1, 1, 0, 0, 2, 1, 0, 0, 1), 1, 1, 1, 1);
        stepsHands();
        stepsMinutes();
    }

    private static void stepTaken(boolean taken, int right, int left, int knives, int minutes) {
        CookHands x = withDish(kitchen(MASTER));
        if (taken) {
            due(0, x.step(0, right, left, knives, minutes));
            due(1, x.step(0, right, left, knives, minutes));
        } else {
            refused(x, BAD, k -> k.step(0, right, left, knives, minutes));
        }
    }

    private static void stepsHands() {
        of("RIGHT hands (0 .. 3), LEFT hands (0 .. 3; one of both at least)");
        for (int right = -1; right <= 4; right++) {
            for (int left = -1; left <= 4; left++) {
                boolean good = right >= 0 && right <= 3 && left >= 0 && left <= 3;
                stepTaken(good && !(right == 0 && left == 0), right, left, 0, 1);
            }
        }
        for (int far : FAR) {
            stepTaken(false, far, 1, 0, 1);
            stepTaken(false, 1, far, 0, 1);
            stepTaken(false, far, far, 0, 1);
            stepTaken(false, far, -far, 0, 1);
        }
        stepTaken(false, 2, -1, 0, 1);
        of("KNIVES (0 .. as many as hands)");
        for (int hands = 1; hands <= 6; hands++) {
            int right = Math.min(3, hands);
            stepTaken(false, right, hands - right, -1, 1);
            stepTaken(true, right, hands - right, 0, 1);
            stepTaken(true, right, hands - right, hands, 1);
            stepTaken(false, right, hands - right, hands + 1, 1);
            stepTaken(hands <= 3, 0, hands, hands, 1);
            stepTaken(false, 0, hands, hands + 1, 1);
        }
        for (int far : FAR) {
            stepTaken(false, 3, 3, far, 1);
        }
    }

    private static void stepsMinutes() {
        of("MINUTES (1 .. 5)");
        for (int minutes = -1; minutes <= 7; minutes++) {
            stepTaken(minutes >= 1 && minutes <= 5, 1, 0, 0, minutes);
            due(minutes >= 1 && minutes <= 5 ? minutes : 0, withDish(kitchen(COOK), 1, 0, 0, minutes).soonest());
        }
        for (int far : FAR) {
            stepTaken(false, 1, 0, 0, far);
            refused(withDish(kitchen(COOK)), BAD, k -> k.step(far, 1, 0, 0, 1));
        }
        of("A STEP of a DISH: ... BAD");
        CookHands x = withDish(withDish(new CookHands()));
        refused(x, BAD, k -> k.step(-1, 1, 0, 0, 1));
        refused(x, BAD, k -> k.step(2, 1, 0, 0, 1));
        due(0, x.step(1, 1, 0, 0, 1));
        due(0, x.step(0, 1, 0, 0, 1));
    }

    private static void minutesAndHands() {
        begunSteps();
        waitingBehindSteps();
        handsForOne();
        firstHandsHoldKnives();
        knivesThereAre();
        rowsOfHands();
        whoseRefused();
    }

    private static void begunSteps() {
        of("A STEP that is begun goes on minute by minute till it is done");
        for (int minutes = 1; minutes <= 5; minutes++) {
            CookHands x = withDish(withDish(kitchen(COOK), 1, 0, 0, minutes, 1, 0, 0, 1), 1, 0, 0, 1);
            for (int i = 1; i < minutes; i++) {
                due(0, x.cooked(1));
                due(i, x.state(0, 1));
                refused(x, NO, k -> k.cooked(2));
                due(1, x.row(0));
            }
            due(0, x.cooked(1));
            due(1, x.state(0, 0));
            due(0, x.state(0, 1));
            due(1, x.cooked(2));
        }
        CookHands y = withDish(withDish(kitchen(COOK, COOK), 1, 0, 0, 3), 1, 0, 0, 2);
        due(0, y.cooked(1));
        refused(y, NO, k -> k.cooked(2));
        due(0, y.cooked(3));
        refused(y, NO, k -> k.cooked(1));
        refused(y, NO, k -> k.cooked(2));
        due(2, y.cooked(3));
        of("... in ROW, COLD too");
        for (int set = 1; set < 8; set++) {
            CookHands all = threeOf(2, COOK, COOK, COOK);
            all.cooked(set);
            due(59 * Integer.bitCount(set), all.cold(60));
            CookHands one = longest(COOK, COOK, COOK);
            one.cooked(set);
            due(set == 7 ? 14 : 15, one.soonest());
        }
        for (int dish = 0; dish < 3; dish++) {
            CookHands one = longest(COOK);
            one.cooked(1 << dish);
            due(44, one.soonest());
            due(1 << dish, one.row(3));
            due(1, one.row(4));
        }
        CookHands two = longest(COOK, COOK);
        two.cooked(6);
        due(24, two.soonest());
        for (int i = 0; i < 4; i++) {
            due(6, two.row(i));
        }
        CookHands z = withDish(withDish(kitchen(COOK), 1, 0, 0, 2), 1, 0, 0, 2);
        z.cooked(2);
        rowDue(z, 2, 1, 1);
        due(59, z.cold(60));
    }

    private static void waitingBehindSteps() {
        of("behind it the DISH may wait");
        CookHands x = withDish(withDish(kitchen(COOK, LEFTY), 1, 0, 0, 1, 0, 1, 0, 1), 0, 1, 0, 2);
        due(0, x.cooked(1));
        due(0, x.cooked(2));
        due(1, x.state(0, 0));
        due(0, x.state(0, 1));
        due(1, x.cooked(2));
        due(2, x.cooked(1));
        CookHands y = withDish(kitchen(COOK), 1, 0, 0, 2, 1, 0, 0, 2);
        due(0, y.cold(60));
        y.cooked(1);
        due(0, y.cold(60));
        y.cooked(1);
        due(0, y.cold(60));
        y.cooked(1);
        due(59, y.cold(60));
    }

    private static void handsForOne() {
        of("they may, if there are COOKS for all hands of their STEPS (each hand for one)");
        CookHands x = withDish(withDish(kitchen(COOK), 1, 0, 0, 1), 1, 0, 0, 1);
        asked(x, NONE, k -> k.whose(3, 0));
        refused(x, NO, k -> k.cooked(3));
        x.cook(LEFTY, 0);
        refused(x, NO, k -> k.cooked(3));
        x.cook(THUMB, 0);
        due(2, x.cooked(3));
        CookHands y = withDish(kitchen(MASTER, MASTER), 3, 3, 6, 5);
        y.knives(6);
        due(NONE, y.soonest());
        y.cook(COOK, 1);
        due(NONE, y.soonest());
        y.cook(LEFTY, 1);
        due(5, y.soonest());
        handsDue(y, 1, 0, 1, 2, 0, 1, 3);
        refused(withDish(new CookHands(), 1, 0, 0, 1), NO, k -> k.cooked(1));
        refused(withDish(new CookHands(), 0, 1, 0, 1), NO, k -> k.cooked(1));
    }

    private static void firstHandsHoldKnives() {
        of("those who hold KNIVES (with the first hands of each STEP, as HANDS tells) are no APPRENTICES, THUMBS");
        handsDue(withDish(kitchen(APPRENTICE, COOK), 2, 0, 0, 1), 1, 0, 1);
        handsDue(withDish(kitchen(APPRENTICE, COOK), 2, 0, 1, 1), 1, 1, 0);
        asked(withDish(kitchen(APPRENTICE, COOK), 2, 0, 2, 1), NONE, k -> k.whose(1, 0));
        handsDue(withDish(kitchen(APPRENTICE, LEFTY), 1, 1, 0, 1), 1, 0, 1);
        asked(withDish(kitchen(APPRENTICE, LEFTY), 1, 1, 1, 1), NONE, k -> k.whose(1, 0));
        handsDue(withDish(kitchen(THUMB, COOK), 1, 1, 1, 1), 1, 1, 0);
        asked(withDish(kitchen(THUMB, COOK), 1, 1, 2, 1), NONE, k -> k.whose(1, 0));
        handsDue(withDish(kitchen(LEFTY, COOK), 1, 1, 2, 1), 1, 1, 0);
        handsDue(withDish(kitchen(THUMB, LEFTY, LEFTY), 0, 3, 2, 1), 1, 1, 2, 0);
        handsDue(withDish(kitchen(LEFTY, THUMB, LEFTY), 0, 3, 1, 1), 1, 0, 1, 2);
        CookHands x = withDish(withDish(kitchen(APPRENTICE, COOK, COOK), 1, 0, 0, 1), 2, 0, 1, 1);
        handsDue(x, 3, 0, 1, 2);
        CookHands y = withDish(withDish(kitchen(COOK, APPRENTICE, COOK), 1, 0, 1, 1), 2, 0, 1, 1);
        handsDue(y, 3, 0, 2, 1);
        handsDue(y, 2, 0, 1);
    }

    private static void knivesThereAre() {
        of("no more KNIVES are held than there are");
        for (int held = 0; held <= 6; held++) {
            CookHands x = withDish(kitchen(MASTER, MASTER, MASTER), 3, 3, held, 1);
            for (int there = 0; there <= 6; there++) {
                x.knives(there);
                due(held <= there ? 1 : NONE, x.soonest());
                due(held <= there ? 0 : NONE, x.whose(1, 0));
            }
        }
        CookHands y = kitchen(MASTER, MASTER, MASTER);
        for (int i = 0; i < 3; i++) {
            withDish(y, 1, 1, 2, 1);
        }
        int[] soonest = {NONE, NONE, 3, 3, 2, 2, 1};
        for (int there = 0; there <= 6; there++) {
            y.knives(there);
            due(soonest[there], y.soonest());
            due(there >= 4 ? 0 : NONE, y.whose(3, 0));
        }
        y.knives(4);
        rowDue(y, 1, 6);
        refused(y, NO, k -> k.cooked(7));
        due(2, y.cooked(5));
    }

    private static void rowsOfHands() {
        of("DISHES in order, of each its RIGHT hands, then its LEFT ones");
        CookHands x = kitchen(MASTER, MASTER, MASTER, MASTER, MASTER, MASTER);
        withDish(withDish(withDish(x, 3, 1, 0, 1), 2, 2, 0, 1), 1, 3, 0, 1);
        handsDue(x, 7, 0, 1, 2, 0, 3, 4, 1, 2, 5, 3, 4, 5);
        handsDue(x, 2, 0, 1, 0, 1);
        handsDue(x, 4, 0, 0, 1, 2);
        handsDue(x, 5, 0, 1, 2, 0, 3, 1, 2, 3);
        of("the first row of COOKS by numbers that can be");
        handsDue(withDish(withDish(kitchen(COOK, APPRENTICE), 1, 0, 0, 1), 1, 0, 1, 1), 3, 1, 0);
        handsDue(withDish(kitchen(THUMB, COOK, LEFTY), 2, 1, 0, 1), 1, 0, 1, 2);
        handsDue(withDish(kitchen(THUMB, COOK, LEFTY), 1, 2, 0, 1), 1, 1, 0, 2);
        handsDue(withDish(withDish(kitchen(THUMB, APPRENTICE, MASTER), 1, 0, 0, 1), 0, 1, 1, 1), 3, 0, 2);
        handsDue(withDish(withDish(kitchen(LEFTY, THUMB, COOK), 0, 1, 0, 1), 1, 1, 0, 1), 3, 0, 2, 1);
        of("(a MASTER may be in it twice, with a RIGHT and a LEFT one)");
        handsDue(withDish(kitchen(MASTER), 1, 1, 0, 1), 1, 0, 0);
        handsDue(withDish(withDish(kitchen(COOK, MASTER), 0, 1, 0, 1), 2, 0, 0, 1), 3, 1, 0, 1);
        of("with the STEPS that are next now");
        for (int dish = 0; dish < 3; dish++) {
            CookHands later = kitchen(COOK, LEFTY);
            for (int i = 0; i < dish; i++) {
                withDish(later, 1, 1, 0, 1);
            }
            withDish(later, 1, 0, 0, 1, 0, 1, 0, 1, 1, 1, 0, 1);
            handsDue(later, 1 << dish, 0);
            later.cooked(1 << dish);
            handsDue(later, 1 << dish, 1);
            later.cooked(1 << dish);
            handsDue(later, 1 << dish, 0, 1);
        }
        CookHands y = withDish(kitchen(COOK, LEFTY), 1, 0, 0, 2, 1, 1, 0, 1, 0, 1, 0, 1);
        handsDue(y, 1, 0);
        y.cooked(1);
        handsDue(y, 1, 0);
        y.cooked(1);
        handsDue(y, 1, 0, 1);
        y.cooked(1);
        handsDue(y, 1, 1);
    }

    private static void whoseRefused() {
        of("COOK j (0 on) of the row. -5: not so many. NONE: they can not go on together. BAD: -10");
        CookHands x = withDish(withDish(withDish(kitchen(COOK, LEFTY), 1, 1, 0, 1), 0, 2, 0, 1));
        asked(x, 0, k -> k.whose(1, 0));
        asked(x, 1, k -> k.whose(1, 1));
        asked(x, -5, k -> k.whose(1, 2));
        asked(x, -5, k -> k.whose(1, MAX));
        asked(x, -5, k -> k.whose(0, 0));
        asked(x, -5, k -> k.whose(0, MAX));
        asked(x, NONE, k -> k.whose(2, 0));
        asked(x, NONE, k -> k.whose(3, 0));
        refused(x, BAD, -10, k -> k.whose(1, -1));
        refused(x, BAD, -10, k -> k.whose(1, MIN));
        refused(x, BAD, -10, k -> k.whose(0, -1));
        refused(x, BAD, -10, k -> k.whose(2, -1));
        of("bits of DISHES that are not there, done, too");
        for (int bits : new int[] {4, 5, 8, 9, 16, -1, -8, MIN, MIN + 1, MAX}) {
            refused(x, BAD, -10, k -> k.whose(bits, 0));
        }
        x.cooked(1);
        refused(x, BAD, -10, k -> k.whose(1, 0));
        refused(x, BAD, -10, k -> k.whose(3, 0));
        asked(x, NONE, k -> k.whose(2, 0));
        refused(new CookHands(), BAD, -10, k -> k.whose(1, 0));
        asked(new CookHands(), -5, k -> k.whose(0, 0));
    }
}
