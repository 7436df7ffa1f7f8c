/** For each promise of the document its ordinary inputs, its edges and its wrong inputs, worked out by hand. */
public final class PromisesTest extends Checks {
    public static void main(String[] args) {
        aKitchen();
        theText();
        theSoonest();
        burnsAndWages();
        cooking();
        whatThereIs();
        end("the promises");
    }

    private static void aKitchen() {
        of("promise 1"); newObject();
        of("promise 2"); cook();
        of("promise 3"); dish();
        of("promise 4"); step();
        of("promise 5"); knives();
        of("promise 6"); strike();
        of("promise 7"); hands();
    }

    private static void theText() {
        of("promise 8"); type();
        of("promise 9"); clear();
        of("promise 10"); read(); readFaults(); readRefusals();
    }

    private static void theSoonest() {
        of("promise 11"); soonest(); soonestByHands(); soonestBehindEachCall();
        of("promise 12"); row();
        of("promise 13"); whose(); whoseOfKinds();
        of("promise 14"); cold();
        of("promise 15"); help();
        of("promise 16"); spared();
        of("promise 17"); strikeCost();
        of("promise 18"); menu();
    }

    private static void burnsAndWages() {
        of("promise 19"); burns();
        of("promise 20"); drawn();
        of("promise 21"); letGo();
        of("promise 22"); wages();
    }

    private static void cooking() {
        of("promise 23"); cooked();
        of("promise 24"); undo(); anew();
        of("promise 25"); state();
    }

    private static void whatThereIs() {
        of("promise 26"); sign();
        of("promise 27"); limb();
        of("promise 28"); image();
        of("promise 29"); from();
        of("promise 30"); status(); statusOfOtherAnswers();
        of("promise 31"); count();
        of("promise 32"); digest();
    }

    // ---- a kitchen

    private static void newObject() {
        CookHands x = new CookHands();
        due(0, x.count(0));
        due(0, x.count(1));
        due(2, x.count(2));
        due(0, x.count(3));
        due(0, x.count(4));
        due(-3, x.strike(false));
        due(1, x.status(1));
        due(-3, x.undo());
        due(-3, x.from(0));
        due(-3, x.from(1));
        due(0, x.soonest());
        fractionDue(x, 0, 1);
        statusDue(new CookHands(), 0, 0, 0);
        due(-1, CookHands.NONE);
        due(-2, CookHands.BAD);
        due(-3, CookHands.NO);
        due(-4, CookHands.FULL);
    }

    private static void cook() {
        CookHands x = new CookHands();
        due(0, x.cook(0, 0));
        due(1, x.cook(5, 9));
        due(-2, x.cook(-1, 0));
        due(-2, x.cook(6, 0));
        due(-2, x.cook(0, -1));
        due(-2, x.cook(0, 10));
        due(-2, x.cook(MAX, MIN));
        due(2, x.cook(3, 1));
        due(3, x.cook(3, 1));
        due(4, x.cook(3, 1));
        due(5, x.cook(3, 1));
        due(-4, x.cook(3, 1));
        due(-2, x.cook(6, 1));
        due(6, x.count(0));
        statusDue(x, 6, 0, 1);
    }

    private static void dish() {
        CookHands x = new CookHands();
        due(0, x.dish());
        due(1, x.dish());
        due(2, x.dish());
        due(-4, x.dish());
        due(3, x.count(1));
        statusDue(x, 0, 0, 1);
    }

    private static void step() {
        CookHands x = new CookHands();
        due(-2, x.step(0, 1, 0, 0, 1));
        x.dish();
        x.dish();
        due(-2, x.step(2, 1, 0, 0, 1));
        due(-2, x.step(-1, 1, 0, 0, 1));
        due(0, x.step(0, 1, 0, 0, 1));
        due(1, x.step(0, 3, 3, 6, 5));
        due(0, x.step(1, 0, 1, 1, 1));
        due(-2, x.step(0, 4, 0, 0, 1));
        due(-2, x.step(0, -1, 1, 0, 1));
        due(-2, x.step(0, 0, 4, 0, 1));
        due(-2, x.step(0, 1, -1, 0, 1));
        due(-2, x.step(0, 0, 0, 0, 1));
        due(-2, x.step(0, 1, 1, -1, 1));
        due(-2, x.step(0, 1, 1, 3, 1));
        due(-2, x.step(0, MAX, MAX, 1, 1));
        due(-2, x.step(0, 1, 1, 1, 0));
        due(-2, x.step(0, 1, 1, 1, 6));
        due(2, x.step(0, 0, 3, 3, 5));
        due(-4, x.step(0, 1, 0, 0, 1));
        due(-2, x.step(0, 1, 0, 0, 6));
        due(1, x.step(1, 1, 0, 0, 1));
        statusDue(x, 14, 0, 1);
    }

    private static void knives() {
        CookHands x = new CookHands();
        due(2, x.knives(0));
        due(0, x.knives(6));
        due(-2, x.knives(7));
        due(-2, x.knives(-1));
        due(-2, x.knives(MIN));
        due(6, x.knives(6));
        due(6, x.count(2));
        statusDue(x, 3, 0, 0);
    }

    private static void strike() {
        CookHands x = new CookHands();
        due(-3, x.strike(false));
        due(1, x.strike(true));
        due(-3, x.strike(true));
        due(1, x.strike(false));
        due(-3, x.strike(false));
        statusDue(x, 0, 3, 0);
    }

    private static void hands() {
        CookHands x = kitchen(COOK, LEFTY, APPRENTICE, MASTER, STRIKER, THUMB);
        int[] right = {1, 0, 1, 1, 1, 1};
        int[] left = {0, 1, 0, 1, 0, 1};
        for (int strike = 0; strike < 2; strike++) {
            for (int i = 0; i < 6; i++) {
                due(strike == 1 && i == STRIKER ? 0 : right[i], x.hands(i, 0));
                due(left[i], x.hands(i, 1));
            }
            x.strike(strike == 0);
        }
        due(1, x.hands(STRIKER, 0));
        due(-2, x.hands(6, 0));
        due(-2, x.hands(-1, 0));
        due(-2, x.hands(0, 2));
        due(-2, x.hands(0, -1));
        due(-2, kitchen(COOK).hands(1, 0));
        statusDue(x, 4, 0, 0);
    }

    // ---- THE TEXT

    private static void type() {
        CookHands x = new CookHands();
        due(-2, x.type(1, 0));
        due(-2, x.type(1, 9));
        due(-2, x.type(1, -1));
        due(-2, x.type(1, MAX));
        due(4, x.type(0x7fff_ffff_6469_7368L, 4));
        due(5, x.type(-256L + ';', 1));
        due(1, x.read());
        due(1, x.count(1));
        for (int i = 1; i <= 24; i++) {
            due(5 + 8 * i, x.type(-1, 8));
        }
        due(-4, x.type(0, 4));
        due(-2, x.type(0, 9));
        due(200, x.type(0, 3));
        due(-4, x.type(0, 1));
        due(200, x.count(4));
        statusDue(x, 5, 0, 2);
    }

    private static void clear() {
        CookHands x = new CookHands();
        due(0, x.clear());
        type(x, "dish;");
        due(5, x.clear());
        due(0, x.clear());
        due(0, x.count(4));
        due(1, x.type('d', 1));
        due(-10, x.read());
    }

    private static void read() {
        CookHands x = new CookHands();
        due(7, read(x, "  cook 0 3;cook01 09 ; dish;dish  ;step 0 1 1 1 2;knives5;strike ; "));
        due(2, x.count(0));
        due(2, x.count(1));
        due(5, x.count(2));
        due(67, x.count(4));
        due(1, x.hands(0, 0));
        due(1, x.hands(1, 1));
        due(-3, x.strike(true));
        due(2, x.soonest());
        due(24, x.wages());
        due(67, x.clear());
        due(0, x.read());
        due(0, x.count(0));
        due(0, x.count(1));
        due(2, x.count(2));
        due(-3, x.strike(false));
        due(0, read(x, "    "));
        statusDue(x, 0, 2, 0);
        readKeepsTheRest();
    }

    private static void readKeepsTheRest() {
        CookHands x = withDish(kitchen(COOK), 1, 0, 0, 1);
        x.image(0);
        x.cooked(1);
        x.burns(5);
        x.cook(9, 9);
        due(1, read(x, "dish;"));
        due(0, x.count(3));
        due(-3, x.undo());
        due(5, x.count(4));
        fractionDue(x, 1, 1);
        due(1, x.status(0));
        due(1, x.from(0));
        due(1, x.count(0));
        due(5, x.count(4));
    }

    private static void readFaults() {
        due(-10, read("cok 0 1;"));
        due(-10, read("cookdish;"));
        due(-10, read("coo"));
        due(-10, read(";"));
        due(-10, read("1"));
        due(-13, read("   Dish;"));
        due(-14, read("dish"));
        due(-16, read("dish  "));
        due(-15, read("dish 1;"));
        due(-15, read("dish;;"));
        due(-15, read("dish dish;"));
        due(-15, read("cook dish;"));
        due(-15, read("cook 100 1;"));
        due(-17, read("cook 0 001;"));
        due(-16, read("cook 0;"));
        due(-17, read("cook 01;"));
        due(-18, read("cook 0 1"));
        due(-19, read("cook 0 1 2;"));
        due(-15, read("cook -1 1;"));
        due(-25, read("step 0 1 1 1 1 1;"));
        due(-22, read("step 0 1 1 1;"));
        due(-19, read("knives 3 strike;"));
        due(-18, read("knives 3strike;"));
        due(-17, read("strike 1;"));
        due(-14, read("dish\t;"));
        due(-14, read("dish\u00e9;"));
        due(-14, read("dish\u0000;"));
        due(-15, read("dish;123"));
        CookHands x = kitchen(COOK);
        due(-15, read(x, "dish;x"));
        due(1, x.count(0));
        due(0, x.count(1));
        statusDue(x, 0, 0, 0);
        due(-210, read("dish;".repeat(39) + " dish"));
        due(-1003, read("dish;".repeat(40)));
    }

    private static void readRefusals() {
        due(-1000, read("cook 6 1;"));
        due(-1000, read("cook 0 10;"));
        due(-1000, read("step 0 1 0 0 1;dish;"));
        due(-1001, read("dish;step 0 1 0 2 1;"));
        due(-1001, read("dish;step 0 1 0 0 6;cook 9 9;"));
        due(-1001, read("strike;strike;"));
        due(-1000, read("knives 7;"));
        due(-1006, read("cook 0 0;".repeat(7)));
        due(-1004, read("dish;" + "step 0 1 0 0 1;".repeat(4)));
        due(-18, read("cook 6 1x;"));
    }

    // ---- the soonest

    private static void soonest() {
        CookHands x = new CookHands();
        due(0, x.soonest());
        withDish(x);
        due(0, x.soonest());
        x.step(0, 1, 0, 0, 3);
        due(-1, x.soonest());
        x.cook(COOK, 0);
        due(3, x.soonest());
        withDish(x, 1, 0, 0, 2);
        due(5, x.soonest());
        x.cook(COOK, 0);
        due(3, x.soonest());
        x.cooked(3);
        due(2, x.soonest());
        x.cooked(3);
        due(1, x.soonest());
        x.cooked(1);
        due(0, x.soonest());
    }

    private static void soonestByHands() {
        due(-1, soonestOf(0, 1, 0, COOK));
        due(-1, soonestOf(1, 0, 0, LEFTY));
        due(1, soonestOf(0, 1, 1, LEFTY));
        due(1, soonestOf(1, 1, 2, MASTER));
        due(-1, soonestOf(2, 0, 0, MASTER));
        due(-1, soonestOf(1, 0, 1, APPRENTICE));
        due(1, soonestOf(1, 0, 0, APPRENTICE));
        due(1, soonestOf(1, 0, 1, STRIKER));
        due(1, soonestOf(1, 0, 0, THUMB));
        due(1, soonestOf(0, 1, 0, THUMB));
        due(-1, soonestOf(1, 1, 0, THUMB));
        due(-1, soonestOf(0, 1, 1, THUMB));
        due(1, soonestOf(1, 1, 1, COOK, THUMB));
        due(-1, soonestOf(1, 1, 2, COOK, THUMB));
        due(1, soonestOf(2, 0, 1, APPRENTICE, COOK));
        due(1, soonestOf(2, 1, 0, MASTER, THUMB));
        due(-1, soonestOf(3, 0, 3, COOK, COOK, COOK));
        CookHands x = withDish(kitchen(STRIKER), 1, 0, 0, 1);
        x.strike(true);
        due(-1, x.soonest());
        knivesAreShared();
    }

    /** SOONEST is asked ahead of each call and behind it: none is answered from how it was. */
    private static void soonestBehindEachCall() {
        CookHands x = withDish(kitchen(STRIKER), 1, 0, 1, 3);
        x.cooked(1);
        due(2, x.soonest());
        x.image(0);
        x.dish();
        due(3, x.soonest());
        x.step(1, 1, 0, 0, 1);
        due(4, x.soonest());
        x.cook(APPRENTICE, 0);
        due(3, x.soonest());
        x.knives(0);
        due(-1, x.soonest());
        x.knives(1);
        due(3, x.soonest());
        x.strike(true);
        due(-1, x.soonest());
        x.strike(false);
        x.cooked(3);
        due(2, x.soonest());
        x.undo();
        due(3, x.soonest());
        x.from(0);
        due(2, x.soonest());
        due(1, read(x, "dish;"));
        due(0, x.soonest());
        askingChangesNothing();
    }

    private static void askingChangesNothing() {
        CookHands x = withDish(withDish(kitchen(COOK, STRIKER, LEFTY), 1, 0, 0, 2), 1, 1, 0, 3);
        due(3, x.soonest());
        due(2, x.strikeCost());
        due(3, x.soonest());
        due(-1, withDish(x, 2, 2, 0, 1).help(0));
        due(-1, x.soonest());
        CookHands y = withDish(withDish(kitchen(COOK), 1, 0, 0, 2), 1, 0, 0, 3);
        due(2, y.help(0));
        due(1, y.menu(3));
        due(5, y.soonest());
        due(0, y.spared());
        due(1, y.menu(2));
        due(2, y.cold(5));
    }

    private static void knivesAreShared() {
        CookHands x = withDish(withDish(kitchen(COOK, COOK), 1, 0, 1, 2), 1, 0, 1, 2);
        due(2, x.soonest());
        x.knives(1);
        due(4, x.soonest());
        x.knives(0);
        due(-1, x.soonest());
    }

    private static void row() {
        CookHands x = withDish(withDish(kitchen(COOK), 1, 0, 0, 2), 1, 0, 0, 1, 1, 0, 0, 1);
        int[] row = {1, 1, 2, 2};
        for (int i = 0; i < 4; i++) {
            due(row[i], x.row(i));
        }
        due(-5, x.row(4));
        due(-5, x.row(MAX));
        due(-10, x.row(-1));
        due(-10, x.row(MIN));
        x.cooked(2);
        due(1, x.row(0));
        due(2, x.row(2));
        due(-5, x.row(3));
        due(-5, new CookHands().row(0));
        due(-5, withDish(kitchen(LEFTY), 1, 0, 0, 1).row(0));
        statusDue(x, 2, 0, 0);
        rowWaits();
    }

    /** Dish 0 holds the LEFT hand that dish 1 needs in its second minute; waiting for it is no later. */
    private static void rowWaits() {
        CookHands x = withDish(withDish(kitchen(COOK, COOK, LEFTY), 0, 1, 0, 1), 1, 0, 0, 1, 1, 1, 0, 1);
        due(2, x.soonest());
        due(3, x.row(0));
        due(2, x.row(1));
        CookHands y = withDish(withDish(kitchen(COOK), 1, 0, 0, 3), 1, 0, 0, 3);
        y.cooked(2);
        due(2, y.row(0));
        due(2, y.row(1));
        due(1, y.row(2));
    }

    private static void whose() {
        CookHands x = withDish(withDish(withDish(kitchen(COOK, LEFTY), 1, 1, 0, 1), 1, 0, 0, 2));
        due(0, x.whose(1, 0));
        due(1, x.whose(1, 1));
        due(-5, x.whose(1, 2));
        due(-5, x.whose(1, MAX));
        due(0, x.whose(2, 0));
        due(-5, x.whose(0, 0));
        due(-1, x.whose(3, 0));
        due(-10, x.whose(3, -1));
        due(-10, x.whose(4, 0));
        due(-10, x.whose(8, 0));
        due(-10, x.whose(-1, 0));
        x.cooked(2);
        due(0, x.whose(1, 0));
        x.cooked(2);
        due(-10, x.whose(2, 0));
        due(-10, x.whose(3, 0));
        statusDue(x, 6, 0, 0);
    }

    private static void whoseOfKinds() {
        handsDue(withDish(kitchen(MASTER, COOK, LEFTY), 2, 2, 0, 1), 1, 0, 1, 0, 2);
        handsDue(withDish(kitchen(APPRENTICE, COOK), 2, 0, 1, 1), 1, 1, 0);
        handsDue(withDish(kitchen(THUMB, COOK, COOK), 2, 1, 0, 1), 1, 1, 2, 0);
        handsDue(withDish(kitchen(THUMB, COOK, LEFTY), 1, 1, 0, 1), 1, 0, 2);
        handsDue(withDish(kitchen(APPRENTICE, THUMB, MASTER), 1, 1, 1, 1), 1, 2, 1);
        handsDue(withDish(kitchen(THUMB, LEFTY, COOK), 1, 1, 2, 1), 1, 2, 1);
        handsDue(withDish(kitchen(COOK, LEFTY, MASTER), 0, 2, 1, 1), 1, 1, 2);
        CookHands x = withDish(withDish(kitchen(COOK, APPRENTICE), 1, 0, 0, 1), 1, 0, 1, 1);
        handsDue(x, 3, 1, 0);
        handsDue(x, 1, 0);
        CookHands y = withDish(kitchen(STRIKER, COOK), 1, 0, 0, 1);
        handsDue(y, 1, 0);
        y.strike(true);
        handsDue(y, 1, 1);
    }

    private static void cold() {
        CookHands x = withDish(withDish(kitchen(COOK), 1, 0, 0, 2), 1, 0, 0, 3);
        due(-1, x.cold(4));
        due(2, x.cold(5));
        due(2, x.cold(6));
        due(2, x.cold(60));
        due(-2, x.cold(61));
        due(-2, x.cold(-1));
        due(-1, x.cold(0));
        x.cooked(1);
        due(3, x.cold(4));
        due(4, x.cold(5));
        statusDue(x, 2, 0, 0);
        coldOfDone();
        coldWaits();
    }

    private static void coldOfDone() {
        CookHands x = withDish(withDish(kitchen(COOK)), 1, 0, 0, 1);
        due(60, x.cold(60));
        due(1, x.cold(1));
        x.cooked(2);
        due(14, x.cold(7));
        due(0, x.cold(0));
        due(0, new CookHands().cold(60));
    }

    /** Behind its first STEP a DISH may wait, and its last one be as late as NINE. */
    private static void coldWaits() {
        CookHands x = withDish(kitchen(COOK), 1, 0, 0, 2, 1, 0, 0, 1);
        due(0, x.cold(10));
        x.cooked(1);
        due(0, x.cold(10));
        due(0, x.cold(2));
        due(-1, x.cold(1));
        CookHands y = withDish(kitchen(COOK), 1, 0, 0, 3);
        y.cooked(1);
        due(8, y.cold(10));
    }

    private static void help() {
        CookHands x = withDish(withDish(kitchen(COOK), 1, 0, 0, 2), 1, 0, 0, 3);
        due(2, x.help(0));
        due(0, x.help(1));
        due(-10, x.help(2));
        due(-10, x.help(-1));
        CookHands y = withDish(kitchen(COOK), 1, 1, 0, 4);
        due(-1, y.help(0));
        due(996, y.help(1));
        CookHands z = withDish(kitchen(COOK), 1, 1, 2, 1);
        due(-1, z.help(1));
        due(0, new CookHands().help(0));
        due(1000 - 5, withDish(kitchen(), 1, 0, 0, 5).help(0));
        due(-1, withDish(kitchen(), 1, 0, 1, 5).help(0));
        due(5, x.soonest());
        statusDue(x, 2, 0, 0);
    }

    private static void spared() {
        CookHands x = withDish(kitchen(COOK, LEFTY, COOK, MASTER), 1, 1, 0, 1);
        due(15, x.spared());
        withDish(x, 2, 0, 0, 1);
        due(2, x.spared());
        due(1, x.soonest());
        due(0, withDish(kitchen(COOK), 1, 0, 0, 1).spared());
        due(-1, withDish(kitchen(COOK), 2, 0, 0, 1).spared());
        due(0, new CookHands().spared());
        due(3, kitchen(COOK, COOK).spared());
        CookHands y = withDish(kitchen(STRIKER, COOK), 1, 0, 0, 1);
        due(3, y.spared());
        y.strike(true);
        due(1, y.spared());
    }

    private static void strikeCost() {
        CookHands x = withDish(withDish(kitchen(COOK, STRIKER), 1, 0, 0, 2), 1, 0, 0, 3);
        due(2, x.strikeCost());
        due(3, x.soonest());
        x.strike(true);
        due(2, x.strikeCost());
        due(5, x.soonest());
        due(-1, withDish(kitchen(STRIKER), 1, 0, 0, 1).strikeCost());
        due(-1, withDish(kitchen(), 1, 0, 0, 1).strikeCost());
        due(0, new CookHands().strikeCost());
        CookHands y = withDish(withDish(kitchen(COOK, STRIKER), 1, 0, 0, 2), 1, 0, 0, 3);
        y.cooked(3);
        due(-1, y.strikeCost());
        y.cooked(3);
        due(0, y.strikeCost());
    }

    private static void menu() {
        CookHands x = withDish(withDish(withDish(kitchen(COOK, COOK), 1, 0, 0, 5), 2, 0, 0, 2), 1, 0, 0, 3);
        due(0, x.menu(0));
        due(0, x.menu(1));
        due(2, x.menu(2));
        due(2, x.menu(3));
        due(2, x.menu(4));
        due(5, x.menu(5));
        due(5, x.menu(6));
        due(7, x.menu(7));
        due(7, x.menu(60));
        due(-2, x.menu(61));
        due(-2, x.menu(-1));
        due(0, new CookHands().menu(60));
        x.cooked(2);
        x.cooked(2);
        due(2, x.menu(0));
        due(6, x.menu(3));
        CookHands y = withDish(withDish(kitchen(COOK), 0, 1, 0, 1), 1, 0, 0, 4);
        due(2, y.menu(4));
        due(0, y.menu(3));
        CookHands z = withDish(withDish(kitchen(COOK), 1, 0, 0, 3), 1, 0, 0, 2);
        z.cooked(1);
        due(1, z.menu(2));
        due(3, z.menu(4));
        z.cooked(1);
        due(1, z.menu(1));
        due(1, z.menu(2));
        due(3, z.menu(3));
    }

    // ---- burns, wages

    /** ROW is 2, 3, 3: dish 1 goes on by COOKS 0, 2 first, then by the MASTER alone. */
    private static void burns() {
        CookHands x = withDish(withDish(kitchen(COOK, COOK, MASTER), 2, 0, 0, 2), 1, 1, 0, 3);
        due(1, x.burns(5));
        fractionDue(x, 27, 64);
        due(1, x.burns(0));
        fractionDue(x, 1, 1);
        due(1, x.burns(20));
        fractionDue(x, 0, 1);
        due(1, x.burns(19));
        fractionDue(x, 1, 8000);
        due(-2, x.burns(21));
        due(-2, x.burns(-1));
        fractionDue(x, 1, 8000);
        CookHands none = withDish(kitchen(COOK), 2, 0, 0, 1);
        due(-3, none.burns(5));
        due(-2, none.burns(21));
        statusDue(none, 1, 1, 0);
        CookHands empty = new CookHands();
        due(1, empty.burns(20));
        fractionDue(empty, 1, 1);
        longBurns();
    }

    /** 19 to the 45 by 20 to the 45: seven limbs each. */
    private static void longBurns() {
        CookHands x = kitchen(COOK, COOK, COOK, COOK, COOK, COOK);
        for (int i = 0; i < 3; i++) {
            withDish(x, 2, 0, 0, 5, 2, 0, 0, 5, 2, 0, 0, 5);
        }
        due(15, x.soonest());
        due(1, x.burns(1));
        java.math.BigInteger above = java.math.BigInteger.valueOf(19).pow(45);
        java.math.BigInteger below = java.math.BigInteger.valueOf(20).pow(45);
        due(7, x.sign(1));
        due(7, x.sign(2));
        for (int i = 0; i < 7; i++) {
            due(above.shiftRight(30 * i).intValue() & 0x3fffffff, x.limb(0, i));
            due(below.shiftRight(30 * i).intValue() & 0x3fffffff, x.limb(1, i));
        }
        due(-1, x.limb(0, 7));
        due(-1, x.limb(1, 7));
    }

    private static void drawn() {
        CookHands x = withDish(withDish(kitchen(COOK, COOK, MASTER), 1, 1, 0, 1, 2, 0, 0, 2), 2, 0, 0, 3);
        due(-1, x.drawn(0, 7));
        long draw = 7;
        int[] minutes = new int[64];
        for (int i = 0; i < 64; i++) {
            draw = (draw * 1103515245L + 12345) % 2147483648L;
            minutes[i] = (int) (draw / 65536 % 20);
        }
        due(drawnByHand(x, 20, minutes), x.drawn(20, 7));
        for (int w = 0; w <= 20; w++) {
            due(drawnByHand(x, w, minutes), x.drawn(w, 7));
        }
        due(-10, x.drawn(21, 7));
        due(-10, x.drawn(-1, 7));
        due(-10, x.drawn(3, -1));
        due(-10, x.drawn(3, 1000000));
        due(0, x.drawn(20, 999999) / 10);
        CookHands none = withDish(kitchen(COOK), 2, 0, 0, 1);
        due(-20, none.drawn(5, 5));
        due(-10, none.drawn(21, 5));
        statusDue(none, 1, 1, 0);
        due(-1, new CookHands().drawn(20, 0));
        due(-1, withDish(kitchen(COOK), 1, 0, 0, 3).drawn(20, 0));
    }

    /** Its own COOKS, read off whose by cooking the ROW minute by minute. */
    private static int drawnByHand(CookHands x, int w, int[] draws) {
        int next = 0;
        int burnt = -1;
        int minutes = x.soonest();
        x.image(1);
        for (int minute = 0; minute < minutes; minute++) {
            int set = x.row(0);
            int j = 0;
            for (int d = 0; d < 3; d++) {
                boolean isShared = false;
                int hands = (set & 1 << d) == 0 ? 0 : 2;
                for (int h = 0; h < hands; h++, j++) {
                    isShared |= x.whose(set, j) != x.whose(set, j - h);
                }
                if (isShared && draws[next++] < w && burnt < 0) {
                    burnt = 10 * minute + d;
                }
            }
            x.cooked(set);
        }
        x.from(1);
        return burnt;
    }

    private static void letGo() {
        CookHands x = withDish(kitchen(MASTER, COOK, COOK), 1, 1, 0, 1, 2, 0, 0, 1, 3, 0, 0, 3, 1, 0, 0, 1);
        due(1, x.letGo(0));
        fractionDue(x, 1, 1);
        due(1, x.letGo(2));
        fractionDue(x, 3, 4);
        x.burns(10);
        due(-2, x.letGo(3));
        due(-2, x.letGo(-1));
        fractionDue(x, 1, 16);
        CookHands alone = withDish(kitchen(COOK), 1, 0, 0, 3);
        alone.burns(0);
        due(1, alone.letGo(0));
        fractionDue(alone, 0, 1);
        CookHands none = withDish(kitchen(COOK), 2, 0, 0, 1);
        due(-3, none.letGo(0));
        due(-2, none.letGo(1));
        statusDue(none, 1, 1, 0);
        letGoOfADishEach();
    }

    /** In one minute COOKS 0, 1 are in dish 0, 2, 3 in dish 1: a share of a half. */
    private static void letGoOfADishEach() {
        CookHands x = withDish(withDish(kitchen(COOK, COOK, COOK, COOK, LEFTY), 2, 0, 0, 2), 2, 0, 0, 2);
        due(1, x.letGo(1));
        fractionDue(x, 1, 2);
        due(1, x.letGo(4));
        fractionDue(x, 0, 1);
    }

    private static void wages() {
        CookHands x = new CookHands();
        x.cook(MASTER, 9);
        x.cook(COOK, 4);
        x.cook(LEFTY, 2);
        withDish(withDish(x, 1, 0, 0, 1, 2, 1, 0, 1), 0, 1, 0, 2);
        due(2, x.soonest());
        due(9 + 9 + 4 + 2, x.wages());
        due(0, new CookHands().wages());
        due(-1, withDish(kitchen(COOK), 2, 0, 0, 1).wages());
        x.cooked(3);
        due(9 + 4 + 2, x.wages());
    }

    // ---- cooking

    private static void cooked() {
        CookHands x = withDish(withDish(withDish(kitchen(COOK), 1, 0, 0, 2, 1, 0, 0, 1), 1, 0, 0, 1));
        due(-2, x.cooked(0));
        due(-2, x.cooked(8));
        due(-2, x.cooked(-1));
        due(-3, x.cooked(4));
        due(-3, x.cooked(3));
        due(1, x.cooked(1));
        due(-3, x.cooked(2));
        due(1, x.cooked(1));
        due(2, x.cooked(2));
        due(-3, x.cooked(2));
        due(3, x.cooked(1));
        due(-3, x.cooked(1));
        due(4, x.count(3));
        statusDue(x, 3, 5, 0);
        due(-2, new CookHands().cooked(1));
        due(-3, withDish(kitchen(), 1, 0, 0, 1).cooked(1));
        due(-3, withDish(kitchen(APPRENTICE), 1, 0, 1, 1).cooked(1));
        CookHands y = withDish(kitchen(COOK, COOK, COOK), 3, 0, 3, 1);
        due(-3, y.cooked(1));
        y.knives(3);
        due(1, y.cooked(1));
        CookHands z = withDish(withDish(kitchen(COOK, COOK), 1, 0, 0, 2), 1, 0, 0, 2);
        due(0, z.cooked(1));
        due(-3, z.cooked(2));
        due(1, z.cooked(3));
        due(2, z.cooked(2));
    }

    private static void undo() {
        CookHands x = withDish(withDish(kitchen(COOK, COOK), 1, 0, 0, 2, 1, 0, 0, 1), 1, 0, 0, 5);
        long fresh = x.digest();
        due(-3, x.undo());
        x.cooked(3);
        long one = x.digest();
        x.cooked(3);
        x.cooked(3);
        due(1, x.undo());
        due(1, x.state(0, 0));
        due(0, x.state(0, 1));
        due(2, x.state(1, 1));
        due(1, x.undo());
        due(one, x.digest());
        due(1, x.undo());
        due(fresh, x.digest());
        due(-3, x.undo());
        statusDue(x, 0, 2, 0);
        due(5, x.soonest());
        CookHands long45 = kitchen(COOK);
        for (int i = 0; i < 3; i++) {
            withDish(long45, 1, 0, 0, 5, 1, 0, 0, 5, 1, 0, 0, 5);
        }
        for (int i = 0; i < 45; i++) {
            due((i + 1) / 15, long45.cooked(1 << i / 15));
        }
        due(0, long45.soonest());
        due(30, long45.cold(10));
        for (int i = 0; i < 45; i++) {
            due(1, long45.undo());
        }
        due(45, long45.soonest());
        due(-3, long45.undo());
    }

    /** A COOK, DISH, STEP, STRIKE, KNIVES that are told begin anew; one that is refused does not. */
    private static void anew() {
        for (int told = 0; told < 10; told++) {
            CookHands x = withDish(kitchen(COOK), 1, 0, 0, 3);
            x.cooked(1);
            switch (told) {
                case 0: x.cook(COOK, 0); break;
                case 1: x.dish(); break;
                case 2: x.step(0, 1, 0, 0, 1); break;
                case 3: x.strike(true); break;
                case 4: x.knives(2); break;
                case 5: x.cook(COOK, 10); break;
                case 6: x.step(0, 0, 0, 0, 1); break;
                case 7: x.strike(false); break;
                case 8: x.knives(7); break;
                default: read(x, "dish;strike;strike;"); break;
            }
            due(told < 5 ? 0 : 1, x.count(3));
            due(told < 5 ? 0 : 1, x.state(0, 1));
            due(told < 5 ? -3 : 1, x.undo());
        }
    }

    private static void state() {
        CookHands x = withDish(withDish(kitchen(COOK), 1, 0, 0, 2, 1, 0, 0, 1));
        int[][] states = {{0, 0}, {0, 1}, {1, 0}, {2, 0}};
        for (int i = 0; i < 4; i++) {
            due(states[i][0], x.state(0, 0));
            due(states[i][1], x.state(0, 1));
            due(0, x.state(1, 0));
            due(0, x.state(1, 1));
            x.cooked(1);
        }
        due(-2, x.state(2, 0));
        due(-2, x.state(-1, 0));
        due(-2, x.state(0, 2));
        due(-2, x.state(0, -1));
        statusDue(x, 4, 1, 0);
    }

    // ---- what there is

    private static void sign() {
        CookHands x = new CookHands();
        due(0, x.sign(0));
        due(0, x.sign(1));
        due(1, x.sign(2));
        x.burns(0);
        due(1, x.sign(0));
        due(1, x.sign(1));
        due(1, x.sign(2));
        due(-2, x.sign(3));
        due(-2, x.sign(-1));
        statusDue(x, 2, 0, 0);
    }

    private static void limb() {
        CookHands x = new CookHands();
        due(-1, x.limb(0, 0));
        due(1, x.limb(1, 0));
        due(-1, x.limb(1, 1));
        due(-1, x.limb(1, MAX));
        due(-2, x.limb(0, -1));
        due(-2, x.limb(2, 0));
        due(-2, x.limb(-1, 0));
        due(-2, x.limb(1, MIN));
        statusDue(x, 4, 0, 0);
    }

    private static void image() {
        CookHands x = kitchen(COOK);
        due(-2, x.image(2));
        due(-2, x.image(-1));
        due(1, x.image(1));
        due(-3, x.from(0));
        due(1, x.image(0));
        x.cook(COOK, 0);
        due(1, x.image(0));
        x.from(1);
        due(1, x.count(0));
        x.from(0);
        due(2, x.count(0));
        statusDue(x, 2, 1, 0);
    }

    private static void from() {
        CookHands x = withDish(kitchen(COOK, STRIKER), 1, 0, 0, 3);
        x.knives(5);
        x.strike(true);
        x.cooked(1);
        x.cooked(1);
        long digest = x.digest();
        x.image(0);
        read(x, "dish;dish;");
        x.burns(0);
        due(1, x.from(0));
        fractionDue(x, 1, 1);
        due(10, x.count(4));
        x.clear();
        due(2, x.state(0, 1));
        due(1, x.cooked(1));
        due(1, x.undo());
        due(1, x.undo());
        due(1, x.undo());
        due(-3, x.undo());
        due(1, x.from(0));
        due(5, x.count(2));
        due(-3, x.strike(true));
        due(1, x.soonest());
        due(-2, x.from(2));
        due(-2, x.from(-1));
        due(-3, x.from(1));
        withDish(x, 1, 0, 0, 1).letGo(1);
        x.from(0);
        due(digest, x.digest());
        statusDue(x, 2, 3, 0);
    }

    private static void status() {
        CookHands x = new CookHands();
        x.cook(9, 9);
        x.undo();
        x.undo();
        for (int i = 0; i < 6; i++) {
            x.dish();
        }
        statusDue(x, 1, 2, 3);
        due(-1, x.status(3));
        due(-1, x.status(-1));
        statusDue(x, 3, 2, 3);
        due(-1000, read(x, "cook 9 9;"));
        due(-10, read(x, "x"));
        statusDue(x, 3, 2, 3);
        x.image(0);
        x.from(0);
        statusDue(x, 3, 2, 3);
    }

    /** -10, -20 where they are told for BAD, NO count as such; NONE and -5 do not. */
    private static void statusOfOtherAnswers() {
        CookHands x = withDish(kitchen(COOK), 2, 0, 0, 1);
        x.row(-1);
        x.whose(1, -1);
        x.help(2);
        x.drawn(21, 0);
        statusDue(x, 4, 0, 0);
        x.drawn(1, 0);
        statusDue(x, 4, 1, 0);
        x.soonest();
        x.row(0);
        x.whose(0, 0);
        x.whose(1, 0);
        x.cold(60);
        x.help(1);
        x.spared();
        x.strikeCost();
        x.wages();
        x.limb(0, 0);
        statusDue(x, 4, 1, 0);
        x.letGo(0);
        x.burns(0);
        statusDue(x, 4, 3, 0);
    }

    private static void count() {
        CookHands x = withDish(withDish(kitchen(COOK, COOK, LEFTY), 1, 0, 0, 3));
        x.knives(4);
        x.cooked(1);
        type(x, "abcde");
        due(3, x.count(0));
        due(2, x.count(1));
        due(4, x.count(2));
        due(1, x.count(3));
        due(5, x.count(4));
        due(-2, x.count(5));
        due(-2, x.count(-1));
        due(-2, x.count(MIN));
        statusDue(x, 3, 0, 0);
    }

    private static void digest() {
        due(digestOf(0, 0, 2, 0, 0, 0, 0, 0, 1, 1), new CookHands().digest());
        CookHands x = new CookHands();
        x.cook(MASTER, 7);
        x.cook(LEFTY, 8);
        withDish(withDish(x, 1, 2, 3, 3, 1, 0, 0, 2));
        x.knives(3);
        x.strike(true);
        x.cooked(1);
        type(x, "ab");
        x.burns(5);
        due(digestOf(2, 2, 3, 1, 2, 1, 3, 7, 1, 8, 2, 1, 2, 3, 3, 1, 0, 0, 2, 0, 0, 1, 0, 0, 1, 1, 1, 9, 16), x.digest());
        x.cook(9, 9);
        x.image(1);
        due(digestOf(2, 2, 3, 1, 2, 1, 3, 7, 1, 8, 2, 1, 2, 3, 3, 1, 0, 0, 2, 0, 0, 1, 0, 0, 1, 1, 1, 9, 16), x.digest());
    }
}
