import java.util.Random;

/** Runs of calls by fixed seeds, each answer of CookHands held against the Model's. */
public final class RandomRunsTest {
    private static final int CALLS = 512;
    private static final int[] WILD = {-1, -2, 3, 7, 8, 9, 13, 31, 61, 1000000, Integer.MAX_VALUE, Integer.MIN_VALUE, -2147483647};

    private final Random random;
    private final CookHands x = new CookHands();
    private final Model m = new Model();
    /** How seldom a number is out of its range: one in so many. */
    private final int wildness;
    /** A calm run seldom tells anything anew, so that much is asked and cooked of a large kitchen. */
    private final boolean calm;
    private long got;
    private long due;
    private String call;

    private RandomRunsTest(long seed, int wildness, boolean calm) {
        random = new Random(seed);
        this.wildness = wildness;
        this.calm = calm;
    }

    public static void main(String[] args) {
        int runs = args.length > 0 ? Integer.parseInt(args[0]) : 1200;
        int first = args.length > 1 ? Integer.parseInt(args[1]) : 0;
        int wrong = 0;
        for (int run = first; run < first + runs && wrong < 5; run++) {
            int[] wildness = {4, 12, 40, 400};
            wrong += new RandomRunsTest(run, wildness[run % 4], run % 8 > 1).agrees(run) ? 0 : 1;
        }
        System.out.println(wrong == 0 ? runs + " runs agree with the model" : "runs differ from the model");
        System.exit(wrong == 0 ? 0 : 1);
    }

    private boolean agrees(int run) {
        build();
        for (int i = 0; i < CALLS; i++) {
            one(calm && random.nextInt(60) > 0 ? 22 + random.nextInt(78) : random.nextInt(100));
            if (got != due) {
                System.out.println("run " + run + ", call " + i + ": " + call + " answered " + got + ", due is " + due);
                return false;
            }
            if (x.digest() != m.digest()) {
                System.out.println("run " + run + ", call " + i + ": the digest behind " + call + " is wrong");
                return false;
            }
        }
        return true;
    }

    private int upTo(int most) {
        return random.nextInt(wildness) == 0 ? WILD[random.nextInt(WILD.length)] : random.nextInt(most + 1);
    }

    /** A kitchen to begin with, so that most runs have something to plan. */
    private void build() {
        int cooks = calm ? 4 + random.nextInt(3) : random.nextInt(7);
        for (int i = 0; i < cooks; i++) {
            call("cook", random.nextInt(6), random.nextInt(10));
        }
        int dishes = calm ? 2 + random.nextInt(2) : random.nextInt(4);
        for (int i = 0; i < dishes; i++) {
            call("dish");
            int steps = calm ? 1 + random.nextInt(3) : random.nextInt(4);
            for (int k = 0; k < steps; k++) {
                step(i);
            }
        }
        call("knives", random.nextInt(7));
        if (random.nextInt(4) == 0) {
            strike(true);
        }
        call("image", random.nextInt(2));
    }

    private void step(int dish) {
        int most = 1 + random.nextInt(random.nextInt(4) == 0 ? 3 : 2);
        int right = random.nextInt(most + 1);
        int left = Math.max(right == 0 ? 1 : 0, random.nextInt(most + 1));
        call("step", dish, right, left, random.nextInt(3) == 0 ? random.nextInt(right + left + 1) : 0, 1 + random.nextInt(random.nextInt(3) == 0 ? 5 : 3));
    }

    private void one(int kind) {
        if (kind < 3) {
            call("cook", upTo(5), upTo(9));
        } else if (kind < 5) {
            call("dish");
        } else if (kind < 8) {
            step(upTo(2));
        } else if (kind < 10) {
            call("step", upTo(2), upTo(3), upTo(3), upTo(6), upTo(5));
        } else if (kind < 12) {
            call("knives", upTo(6));
        } else if (kind < 14) {
            strike(random.nextBoolean());
        } else if (kind < 16) {
            call("hands", upTo(5), upTo(1));
        } else if (kind < 22) {
            write();
        } else if (kind < 58) {
            ask(kind - 22);
        } else if (kind < 80) {
            call("cooked", upTo(7));
        } else {
            rest(kind - 80);
        }
    }

    private void ask(int kind) {
        switch (kind / 3) {
            case 0: call("soonest"); break;
            case 1: call("row", upTo(9)); break;
            case 2: case 3: call("whose", upTo(7), upTo(11)); break;
            case 4: call("cold", random.nextBoolean() ? upTo(60) : upTo(20)); break;
            case 5: call("help", upTo(1)); break;
            case 6: call("spared"); break;
            case 7: call("strikeCost"); break;
            case 8: call("menu", random.nextBoolean() ? upTo(60) : upTo(9)); break;
            case 9: call("burns", upTo(20)); break;
            case 10: call("drawn", upTo(20), upTo(999999)); break;
            default: call(random.nextBoolean() ? "letGo" : "wages", upTo(5)); break;
        }
    }

    private void rest(int kind) {
        switch (kind) {
            case 0: case 1: case 2: case 3: call("undo"); break;
            case 4: case 5: case 6: call("state", upTo(2), upTo(1)); break;
            case 7: call("sign", upTo(2)); break;
            case 8: case 9: call("limb", upTo(1), upTo(7)); break;
            case 10: case 11: call("image", upTo(1)); break;
            case 12: case 13: call("from", upTo(1)); break;
            case 14: case 15: call("status", upTo(2)); break;
            case 16: case 17: call("count", upTo(4)); break;
            case 18: call("clear"); break;
            default: call(calm && random.nextInt(20) > 0 ? "digest" : "read"); break;
        }
    }

    /** Types a card, right or nearly so, and reads it; or types anything. */
    private void write() {
        if (random.nextInt(4) == 0) {
            type(random.nextLong(), upTo(8));
            return;
        }
        if (random.nextInt(3) > 0) {
            call("clear");
        }
        byte[] bytes = card().getBytes(java.nio.charset.StandardCharsets.ISO_8859_1);
        for (int i = 0; i < bytes.length; i += 8) {
            long v = random.nextLong();
            int n = Math.min(8, bytes.length - i);
            for (int k = 0; k < n; k++) {
                v = v << 8 | bytes[i + k] & 255;
            }
            type(v, n);
        }
        call("read");
    }

    private String card() {
        StringBuilder card = new StringBuilder();
        int items = random.nextInt(10);
        for (int i = 0; i < items; i++) {
            card.append(item());
        }
        if (random.nextInt(4) == 0 && card.length() > 0) {
            String odd = " ;;09a~kdc\u00e9\n\u0000A/:`{-";
            card.setCharAt(random.nextInt(card.length()), odd.charAt(random.nextInt(odd.length())));
        }
        if (random.nextInt(8) == 0) {
            card.setLength(random.nextInt(card.length() + 1));
        }
        return card.toString();
    }

    private String item() {
        switch (random.nextInt(9)) {
            case 0: case 1: case 2: return "cook" + gap() + number(6) + " " + number(10) + gap() + ";" + gap();
            case 3: case 4: return gap() + "dish" + gap() + ";";
            case 5: case 6: case 7: return "step " + random.nextInt(3) + " " + number(3) + " 1 " + number(2) + gap() + " " + (1 + random.nextInt(5)) + ";";
            default: return random.nextBoolean() ? "knives" + gap() + number(7) + ";" : "strike;" + gap();
        }
    }

    private String number(int below) {
        int n = random.nextInt(40) == 0 ? random.nextInt(120) : random.nextInt(below);
        return random.nextInt(4) == 0 && n < 10 ? "0" + n : "" + n;
    }

    private String gap() {
        return " ".repeat(random.nextInt(5) / 2);
    }

    private void strike(boolean is) {
        answer("strike(" + is + ")", x.strike(is), m.strike(is));
    }

    private void type(long v, int n) {
        answer("type(" + v + ", " + n + ")", x.type(v, n), m.type(v, n));
    }

    private void answer(String what, long program, long model) {
        if (got == due) {
            call = what;
            got = program;
            due = model;
        }
    }

    private void call(String name, int... a) {
        String what = name + java.util.Arrays.toString(a);
        switch (name) {
            case "cook": answer(what, x.cook(a[0], a[1]), m.cook(a[0], a[1])); break;
            case "dish": answer(what, x.dish(), m.dish()); break;
            case "step": answer(what, x.step(a[0], a[1], a[2], a[3], a[4]), m.step(a[0], a[1], a[2], a[3], a[4])); break;
            case "knives": answer(what, x.knives(a[0]), m.knives(a[0])); break;
            case "hands": answer(what, x.hands(a[0], a[1]), m.hands(a[0], a[1])); break;
            case "clear": answer(what, x.clear(), m.clear()); break;
            case "read": answer(what, x.read(), m.read()); break;
            case "soonest": answer(what, x.soonest(), m.soonest()); break;
            case "row": answer(what, x.row(a[0]), m.row(a[0])); break;
            case "whose": answer(what, x.whose(a[0], a[1]), m.whose(a[0], a[1])); break;
            case "cold": answer(what, x.cold(a[0]), m.cold(a[0])); break;
            case "help": answer(what, x.help(a[0]), m.help(a[0])); break;
            case "spared": answer(what, x.spared(), m.spared()); break;
            case "strikeCost": answer(what, x.strikeCost(), m.strikeCost()); break;
            case "menu": answer(what, x.menu(a[0]), m.menu(a[0])); break;
            case "burns": answer(what, x.burns(a[0]), m.burns(a[0])); break;
            case "drawn": answer(what, x.drawn(a[0], a[1]), m.drawn(a[0], a[1])); break;
            case "letGo": answer(what, x.letGo(a[0]), m.letGo(a[0])); break;
            case "wages": answer(what, x.wages(), m.wages()); break;
            case "cooked": answer(what, x.cooked(a[0]), m.cooked(a[0])); break;
            case "undo": answer(what, x.undo(), m.undo()); break;
            case "state": answer(what, x.state(a[0], a[1]), m.state(a[0], a[1])); break;
            case "sign": answer(what, x.sign(a[0]), m.sign(a[0])); break;
            case "limb": answer(what, x.limb(a[0], a[1]), m.limb(a[0], a[1])); break;
            case "image": answer(what, x.image(a[0]), m.image(a[0])); break;
            case "from": answer(what, x.from(a[0]), m.from(a[0])); break;
            case "status": answer(what, x.status(a[0]), m.status(a[0])); break;
            case "count": answer(what, x.count(a[0]), m.count(a[0])); break;
            default: answer(what, x.digest(), m.digest()); break;
        }
    }
}
