import java.math.BigInteger;

/**
 * 2 SOONEST: ROW, COLD, HELP, SPARED, a STRIKE's cost, MENU, burns, wages.
 * Each sentence of the document there that names a boundary case, by its own
 * words, with the answers due at the boundary and on either side of it.
 */
public final class SoonestBoundariesTest extends Checks {
    /** Of the 45 draws of this SEED the last alone is below 2: it is 1. */
    private static final int LAST_SEED = 484, LAST_ODDS = 2;

    public static void main(String[] args) {
        soonestAndRow();
        coldAndHelp();
        sparedStrikeMenu();
        burnsAndWages();
        askedFirst();
        end("the boundaries of what is asked");
    }

    private static void soonestAndRow() {
        of("the fewest minutes until all DISHES are done (from how they are now)");
        asked(new CookHands(), 0, k -> k.soonest());
        asked(withDish(new CookHands()), 0, k -> k.soonest());
        CookHands x = longest(COOK);
        for (int minute = 0; minute < 45; minute++) {
            due(45 - minute, x.soonest());
            due(1 << minute / 15, x.row(0));
            due(4, x.row(44 - minute));
            due(-5, x.row(45 - minute));
            x.cooked(1 << minute / 15);
        }
        asked(x, 0, k -> k.soonest());
        due(15, longest(COOK, COOK, COOK).soonest());
        due(25, longest(COOK, COOK).soonest());
        of("None: they can not be");
        asked(longest(LEFTY), NONE, k -> k.soonest());
        CookHands y = withDish(withDish(kitchen(COOK), 1, 0, 0, 1), 1, 0, 0, 1, 1, 0, 0, 1);
        due(3, y.soonest());
        y.step(1, 0, 1, 0, 1);
        asked(y, NONE, k -> k.soonest());
        asked(y, -5, k -> k.row(0));
        y.cook(LEFTY, 0);
        due(3, y.soonest());
        rowsOfDishes();
        rowRefused();
    }

    private static void rowsOfDishes() {
        of("of all such ones the first, minute by minute, by bits (the least ahead; none is 0)");
        rowDue(new CookHands());
        rowDue(withDish(withDish(new CookHands())));
        rowDue(threeOf(1, COOK), 1, 2, 4);
        rowDue(threeOf(1, COOK, COOK), 1, 6);
        rowDue(threeOf(2, COOK, COOK), 1, 1, 6, 6);
        rowDue(threeOf(1, COOK, COOK, COOK), 7);
        rowDue(withDish(withDish(kitchen(COOK, COOK), 1, 0, 0, 1), 1, 0, 0, 3), 2, 2, 3);
        rowDue(withDish(withDish(kitchen(COOK, COOK), 1, 0, 0, 3), 1, 0, 0, 1), 1, 1, 3);
        rowDue(withDish(withDish(kitchen(COOK, COOK), 1, 0, 0, 2), 1, 0, 0, 3), 2, 3, 3);
        rowDue(withDish(withDish(withDish(kitchen(COOK)), 1, 0, 0, 1)), 2);
    }

    private static void rowRefused() {
        of("the DISHES (bits) of minute i (0 on). -5: not so many, none. BAD: -10");
        CookHands x = threeOf(1, COOK);
        CookHands none = threeOf(1, LEFTY);
        asked(x, 1, k -> k.row(0));
        asked(x, 4, k -> k.row(2));
        for (int i : new int[] {3, 4, 44, 45, 46, 60, 100, MAX}) {
            asked(x, -5, k -> k.row(i));
            asked(none, -5, k -> k.row(i));
        }
        for (int i : new int[] {-1, -2, -5, MIN}) {
            refused(x, BAD, -10, k -> k.row(i));
            refused(none, BAD, -10, k -> k.row(i));
            refused(new CookHands(), BAD, -10, k -> k.row(i));
        }
        asked(none, -5, k -> k.row(0));
        asked(new CookHands(), -5, k -> k.row(0));
    }

    private static void coldAndHelp() {
        of("HOT at NINE (0 .. 60 minutes from now)");
        CookHands x = withDish(withDish(kitchen(COOK), 1, 0, 0, 2), 1, 0, 0, 3);
        for (int nine : new int[] {-1, -2, 61, 62, MIN, MAX}) {
            refused(x, BAD, k -> k.cold(nine));
        }
        of("all are done by then ... None: not by then");
        for (int nine = 0; nine <= 60; nine++) {
            int at = nine;
            asked(x, nine < 5 ? NONE : 2, k -> k.cold(at));
        }
        CookHands slow = longest(COOK);
        asked(slow, NONE, k -> k.cold(44));
        asked(slow, 5 + 10, k -> k.cold(45));
        asked(slow, 5 + 10, k -> k.cold(60));
        asked(threeOf(1, LEFTY), NONE, k -> k.cold(60));
        of("the least sum of minutes between the end of each DISH and NINE");
        asked(withDish(withDish(kitchen(COOK, COOK), 1, 0, 0, 1), 1, 0, 0, 3), 0, k -> k.cold(3));
        asked(threeOf(2, COOK), 0 + 2 + 4, k -> k.cold(6));
        asked(threeOf(2, COOK, COOK), 2, k -> k.cold(4));
        coldOfDone();
        coldBegun();
        help();
    }

    private static void coldOfDone() {
        of("of one that is done already, or has no STEPS: NINE");
        for (int nine = 0; nine <= 60; nine += 20) {
            int at = nine;
            asked(new CookHands(), 0, k -> k.cold(at));
            asked(withDish(new CookHands()), nine, k -> k.cold(at));
            asked(withDish(withDish(withDish(new CookHands()))), 3 * nine, k -> k.cold(at));
            CookHands x = withDish(withDish(kitchen(COOK), 1, 0, 0, 1));
            asked(x, nine == 0 ? NONE : nine, k -> k.cold(at));
            x.cooked(1);
            asked(x, 2 * nine, k -> k.cold(at));
        }
    }

    private static void coldBegun() {
        of("minutes in which none goes on may be");
        CookHands x = withDish(kitchen(COOK), 1, 0, 0, 5, 1, 0, 0, 1);
        asked(x, NONE, k -> k.cold(5));
        asked(x, 0, k -> k.cold(6));
        asked(x, 0, k -> k.cold(60));
        CookHands y = withDish(withDish(kitchen(COOK), 1, 0, 0, 5), 1, 0, 0, 1);
        y.cooked(1);
        asked(y, NONE, k -> k.cold(4));
        asked(y, 1, k -> k.cold(5));
        asked(y, 2, k -> k.cold(6));
        asked(y, 56, k -> k.cold(60));
    }

    private static void help() {
        of("HELP by a RIGHT (0), LEFT (1) hand. NONE. BAD: -10");
        CookHands x = longest(COOK);
        for (int what : new int[] {-1, 2, 3, MIN, MAX}) {
            refused(x, BAD, -10, k -> k.help(what));
        }
        asked(x, 45 - 25, k -> k.help(0));
        asked(x, 0, k -> k.help(1));
        asked(new CookHands(), 0, k -> k.help(0));
        asked(withDish(new CookHands()), 0, k -> k.help(1));
        of("if it can not be without, but with it: 1000 less SOONEST with it");
        asked(longest(), 1000 - 45, k -> k.help(0));
        asked(withDish(new CookHands(), 0, 1, 0, 1), 999, k -> k.help(1));
        asked(withDish(kitchen(COOK), 2, 0, 0, 1), 999, k -> k.help(0));
        of("none: not with it, either");
        asked(longest(), NONE, k -> k.help(1));
        asked(withDish(new CookHands(), 0, 1, 0, 1), NONE, k -> k.help(0));
        asked(withDish(kitchen(COOK), 3, 0, 0, 1), NONE, k -> k.help(0));
        of("of nobody, that holds no KNIFE");
        asked(withDish(new CookHands(), 1, 0, 1, 1), NONE, k -> k.help(0));
        asked(withDish(kitchen(COOK), 2, 0, 1, 1), 999, k -> k.help(0));
        asked(withDish(kitchen(APPRENTICE), 2, 0, 1, 1), NONE, k -> k.help(0));
        asked(withDish(kitchen(COOK), 2, 0, 2, 1), NONE, k -> k.help(0));
        asked(withDish(withDish(kitchen(COOK), 1, 0, 1, 2), 1, 0, 1, 3), 0, k -> k.help(0));
        asked(withDish(withDish(kitchen(COOK), 1, 0, 1, 2), 1, 0, 0, 3), 2, k -> k.help(0));
        of("SOONEST less SOONEST with one ... (from how they are now)");
        CookHands y = withDish(withDish(kitchen(COOK), 1, 0, 0, 2), 1, 0, 0, 3);
        y.cooked(1);
        asked(y, 1, k -> k.help(0));
        y.cooked(1);
        asked(y, 0, k -> k.help(0));
    }

    private static void sparedStrikeMenu() {
        of("COOKS (bits) each of whom alone can be away, and SOONEST stays");
        asked(new CookHands(), 0, k -> k.spared());
        asked(kitchen(COOK, LEFTY, APPRENTICE, MASTER, STRIKER, THUMB), 63, k -> k.spared());
        asked(withDish(kitchen(COOK), 1, 0, 0, 1), 0, k -> k.spared());
        asked(withDish(kitchen(COOK, COOK), 1, 0, 0, 1), 3, k -> k.spared());
        asked(withDish(kitchen(COOK, COOK), 2, 0, 0, 1), 0, k -> k.spared());
        asked(withDish(kitchen(COOK, COOK, COOK, COOK, COOK, COOK), 3, 0, 0, 5), 63, k -> k.spared());
        asked(withDish(withDish(kitchen(COOK, COOK), 1, 0, 0, 2), 1, 0, 0, 2), 0, k -> k.spared());
        asked(withDish(kitchen(THUMB, COOK, LEFTY), 1, 1, 0, 1), 7, k -> k.spared());
        asked(withDish(kitchen(THUMB, COOK, LEFTY), 2, 1, 0, 1), 0, k -> k.spared());
        asked(withDish(kitchen(THUMB, COOK, LEFTY), 1, 1, 1, 1), 5, k -> k.spared());
        asked(withDish(kitchen(COOK, COOK, COOK, COOK, COOK, LEFTY), 0, 1, 0, 1), 31, k -> k.spared());
        of("SPARED ... NONE: it can not be");
        asked(withDish(kitchen(COOK, COOK), 0, 1, 0, 1), NONE, k -> k.spared());
        asked(withDish(new CookHands(), 1, 0, 0, 1), NONE, k -> k.spared());
        CookHands x = withDish(kitchen(COOK), 1, 0, 0, 1);
        x.cooked(1);
        asked(x, 1, k -> k.spared());
        strikeCost();
        menu();
    }

    private static void strikeCost() {
        of("SOONEST in a STRIKE less SOONEST without one. ... NONE: one of both can not be");
        asked(new CookHands(), 0, k -> k.strikeCost());
        asked(withDish(kitchen(COOK), 1, 0, 0, 5), 0, k -> k.strikeCost());
        asked(withDish(kitchen(STRIKER), 1, 0, 0, 5), NONE, k -> k.strikeCost());
        asked(withDish(kitchen(LEFTY), 1, 0, 0, 5), NONE, k -> k.strikeCost());
        CookHands x = longest(COOK, STRIKER, STRIKER);
        asked(x, 45 - 15, k -> k.strikeCost());
        x.strike(true);
        asked(x, 30, k -> k.strikeCost());
        due(45, x.soonest());
        CookHands y = withDish(kitchen(STRIKER), 1, 0, 0, 1);
        y.strike(true);
        asked(y, NONE, k -> k.strikeCost());
        y.strike(false);
        y.cooked(1);
        asked(y, 0, k -> k.strikeCost());
    }

    private static void menu() {
        of("DISHES that could be done in m minutes (0 .. 60) from now");
        CookHands x = withDish(withDish(withDish(kitchen(COOK), 1, 0, 0, 3), 1, 0, 0, 2), 1, 0, 0, 1);
        for (int m : new int[] {-1, -2, 61, 62, MIN, MAX}) {
            refused(x, BAD, k -> k.menu(m));
        }
        of("that with the most DISHES, of like ones the least bits");
        int[] menus = {0, 4, 2, 6, 5, 3, 7};
        for (int m = 0; m <= 60; m++) {
            int in = m;
            asked(x, menus[Math.min(m, 6)], k -> k.menu(in));
        }
        CookHands slow = longest(COOK);
        asked(slow, 0, k -> k.menu(14));
        asked(slow, 1, k -> k.menu(15));
        asked(slow, 1, k -> k.menu(29));
        asked(slow, 3, k -> k.menu(30));
        asked(slow, 3, k -> k.menu(44));
        asked(slow, 7, k -> k.menu(45));
        asked(new CookHands(), 0, k -> k.menu(60));
        asked(withDish(withDish(kitchen(COOK), 1, 0, 0, 1)), 2, k -> k.menu(0));
        asked(withDish(withDish(kitchen(COOK), 0, 1, 0, 1), 1, 0, 0, 1), 2, k -> k.menu(60));
        of("were no others there");
        CookHands y = withDish(withDish(kitchen(COOK), 1, 0, 0, 5), 1, 0, 0, 1);
        y.cooked(1);
        asked(y, 0, k -> k.menu(0));
        asked(y, 2, k -> k.menu(1));
        asked(y, 2, k -> k.menu(3));
        asked(y, 1, k -> k.menu(4));
        asked(y, 3, k -> k.menu(5));
    }

    private static void burnsAndWages() {
        burnsOdds();
        burnsByTwo();
        drawnBySeed();
        drawnPlaces();
        letGo();
        wages();
    }

    private static void limbsDue(CookHands x, int which, BigInteger number) {
        int limbs = (number.bitLength() + 29) / 30;
        due(limbs, x.sign(1 + which));
        for (int i = 0; i < limbs; i++) {
            due(number.shiftRight(30 * i).intValue() & (1 << 30) - 1, x.limb(which, i));
        }
        due(NONE, x.limb(which, limbs));
    }

    private static void powerDue(CookHands x, int w, int n) {
        due(1, x.burns(w));
        BigInteger above = BigInteger.valueOf(20 - w).pow(n);
        BigInteger below = BigInteger.valueOf(20).pow(n);
        due(above.signum(), x.sign(0));
        limbsDue(x, 0, above.divide(above.gcd(below)));
        limbsDue(x, 1, below.divide(above.gcd(below)));
    }

    private static void burnsOdds() {
        of("it burns by w of 20 (0 .. 20): the chance that nothing burns in ROW");
        for (int minutes : new int[] {0, 1, 2, 6, 7, 13, 29, 30, 31, 44, 45}) {
            CookHands x = shared(minutes);
            due(minutes, x.soonest());
            for (int w = 0; w <= 20; w++) {
                powerDue(x, w, minutes);
            }
        }
        of("BURNS: ... BAD; NO: there is no ROW");
        CookHands y = shared(3);
        y.burns(5);
        CookHands none = withDish(kitchen(COOK), 2, 0, 0, 1);
        none.burns(5);
        for (int w : new int[] {-1, -2, 21, 22, MIN, MAX}) {
            refused(y, BAD, k -> k.burns(w));
            refused(none, BAD, k -> k.burns(w));
        }
        refused(none, NO, k -> k.burns(0));
        refused(none, NO, k -> k.burns(20));
        powerDue(new CookHands(), 20, 0);
    }

    private static void burnsByTwo() {
        of("that goes on by hands of two COOKS or more");
        powerDue(withDish(kitchen(MASTER), 1, 1, 0, 3), 10, 0);
        powerDue(withDish(kitchen(MASTER, COOK), 1, 1, 0, 3), 10, 0);
        powerDue(withDish(kitchen(MASTER, COOK), 2, 1, 0, 3), 10, 3);
        powerDue(withDish(kitchen(COOK, COOK, COOK), 3, 0, 0, 3), 10, 3);
        powerDue(withDish(kitchen(COOK), 1, 0, 0, 3), 10, 0);
        of("in each minute of each STEP");
        powerDue(withDish(withDish(kitchen(MASTER, MASTER, MASTER), 1, 1, 0, 2), 2, 2, 0, 2), 10, 2);
        powerDue(withDish(withDish(kitchen(COOK, COOK, COOK, COOK), 2, 0, 0, 2), 2, 0, 0, 2), 10, 4);
        CookHands x = withDish(withDish(kitchen(COOK, MASTER), 1, 0, 0, 1), 1, 1, 0, 1);
        handsDue(x, 3, 0, 1, 1);
        powerDue(x, 10, 0);
    }

    /** Known draws for SEED 1: 16838, 5758, 10113, 17515, 31051, 5627, 23010, 7419, 16212, 4086; by 20: 18 18 13 15 11 7 10 19 12 6. */
    private static void drawnBySeed() {
        of("X is SEED at first ... by 20 left over, less than w: it burns: the first");
        CookHands x = shared(10);
        int[] firstBy = new int[21];
        int[] draws = {18, 18, 13, 15, 11, 7, 10, 19, 12, 6};
        for (int w = 0; w <= 20; w++) {
            firstBy[w] = NONE;
            for (int minute = 9; minute >= 0; minute--) {
                firstBy[w] = draws[minute] < w ? 10 * minute : firstBy[w];
            }
            int odds = w;
            asked(x, firstBy[w], k -> k.drawn(odds, 1));
        }
        due(NONE, firstBy[6]);
        due(90, firstBy[7]);
        due(40, firstBy[13]);
        due(20, firstBy[14]);
        due(0, firstBy[19]);
        asked(x, NONE, k -> k.drawn(0, 0));
        asked(x, 0, k -> k.drawn(1, 0));
        of("a SEED (0 .. 999999)");
        asked(x, 0, k -> k.drawn(20, 999999));
        CookHands none = withDish(kitchen(COOK), 2, 0, 0, 1);
        for (int seed : new int[] {-1, -2, 1000000, 1000001, MIN, MAX}) {
            refused(x, BAD, -10, k -> k.drawn(5, seed));
            refused(none, BAD, -10, k -> k.drawn(5, seed));
        }
        for (int w : new int[] {-1, 21, MIN, MAX}) {
            refused(x, BAD, -10, k -> k.drawn(w, 0));
            refused(none, BAD, -10, k -> k.drawn(w, 0));
        }
        of("NO: -20: there is no ROW");
        refused(none, NO, -20, k -> k.drawn(0, 0));
        refused(none, NO, -20, k -> k.drawn(20, 999999));
    }

    private static void drawnPlaces() {
        of("10 times the minute, and the DISH; none");
        asked(new CookHands(), NONE, k -> k.drawn(20, 0));
        asked(withDish(kitchen(COOK), 1, 0, 0, 5), NONE, k -> k.drawn(20, 0));
        CookHands x = kitchen(COOK, COOK);
        withDish(withDish(withDish(x, 1, 0, 0, 1), 1, 0, 0, 1), 1, 0, 0, 4, 2, 0, 0, 1);
        rowDue(x, 4, 4, 5, 6, 4);
        asked(x, 42, k -> k.drawn(20, 5));
        asked(shared(45), 10 * 44 + 2, k -> k.drawn(LAST_ODDS, LAST_SEED));
        asked(shared(45), NONE, k -> k.drawn(LAST_ODDS - 1, LAST_SEED));
        CookHands less = shared(10);
        asked(less, 90, k -> k.drawn(7, 1));
        less.cooked(1);
        asked(less, NONE, k -> k.drawn(7, 1));
        of("for each minute of ROW in order, each DISH of it in order");
        CookHands y = withDish(withDish(kitchen(COOK, COOK, COOK, COOK), 2, 0, 0, 1), 2, 0, 0, 3);
        rowDue(y, 2, 2, 3);
        asked(y, 20, k -> k.drawn(14, 1));
    }

    private static void letGo() {
        of("the share of these minutes of ROW (of a DISH each) in which a hand of his is in it");
        CookHands x = withDish(kitchen(MASTER, COOK, COOK), 1, 1, 0, 1, 2, 0, 0, 1, 3, 0, 0, 3, 1, 0, 0, 1);
        due(1, x.letGo(0));
        fractionDue(x, 1, 1);
        due(1, x.letGo(1));
        fractionDue(x, 1, 1);
        due(1, x.letGo(2));
        fractionDue(x, 3, 4);
        CookHands y = withDish(withDish(kitchen(COOK, COOK, COOK, COOK, MASTER), 2, 0, 0, 2), 2, 0, 0, 2);
        due(1, y.letGo(3));
        fractionDue(y, 1, 2);
        due(1, y.letGo(4));
        fractionDue(y, 0, 1);
        for (int dish = 0; dish < 3; dish++) {
            CookHands later = kitchen(COOK, COOK, LEFTY);
            for (int i = 0; i < dish; i++) {
                withDish(later);
            }
            withDish(later, 2, 0, 0, 2, 1, 1, 0, 1);
            due(1, later.letGo(2));
            fractionDue(later, 1, 3);
            due(1, later.letGo(0));
            fractionDue(later, 1, 1);
            later.cooked(1 << dish);
            due(1, later.letGo(1));
            fractionDue(later, 1, 2);
            due(1, later.letGo(0));
            fractionDue(later, 1, 1);
            due(4, later.wages());
        }
        CookHands knife = withDish(withDish(kitchen(COOK, APPRENTICE, APPRENTICE), 1, 0, 0, 1), 2, 0, 1, 1);
        due(1, knife.letGo(0));
        fractionDue(knife, 1, 1);
        due(1, knife.letGo(1));
        fractionDue(knife, 0, 1);
        due(3, knife.wages());
        of("(0, if there is no such minute)");
        CookHands before = shared(2);
        before.burns(10);
        fractionDue(before, 1, 4);
        read(before, "cook 0 0;");
        due(1, before.letGo(0));
        fractionDue(before, 0, 1);
        CookHands alone = withDish(kitchen(COOK), 1, 0, 0, 3);
        alone.burns(0);
        fractionDue(alone, 1, 1);
        due(1, alone.letGo(0));
        fractionDue(alone, 0, 1);
        CookHands idle = kitchen(COOK);
        due(1, idle.letGo(0));
        fractionDue(idle, 0, 1);
        of("LET GO ... BAD; NO: there is no ROW");
        x.burns(10);
        CookHands none = withDish(kitchen(COOK), 2, 0, 0, 1);
        for (int cook : new int[] {-1, 3, 5, 6, MIN, MAX}) {
            refused(x, BAD, k -> k.letGo(cook));
            refused(none, BAD, k -> k.letGo(cook));
        }
        refused(none, BAD, k -> k.letGo(1));
        refused(none, NO, k -> k.letGo(0));
        refused(new CookHands(), BAD, k -> k.letGo(0));
    }

    private static void wages() {
        of("all of COOKS for ROW (a MASTER with both hands once)");
        CookHands x = new CookHands();
        x.cook(MASTER, 9);
        withDish(x, 1, 1, 0, 5);
        asked(x, 45, k -> k.wages());
        CookHands y = new CookHands();
        y.cook(MASTER, 7);
        withDish(withDish(y, 1, 0, 0, 1), 0, 1, 0, 1);
        rowDue(y, 3);
        asked(y, 7, k -> k.wages());
        CookHands all = new CookHands();
        for (int i = 0; i < 6; i++) {
            all.cook(MASTER, 9);
        }
        withDish(withDish(all, 3, 3, 0, 5, 3, 3, 0, 5, 3, 3, 0, 5), 3, 3, 0, 5, 3, 3, 0, 5, 3, 3, 0, 5);
        asked(all, 2 * 15 * 3 * 9, k -> k.wages());
        of("WAGES. NONE: there is no ROW");
        asked(new CookHands(), 0, k -> k.wages());
        asked(kitchen(COOK), 0, k -> k.wages());
        asked(withDish(kitchen(COOK), 2, 0, 0, 1), NONE, k -> k.wages());
        x.cooked(1);
        asked(x, 36, k -> k.wages());
        for (int i = 0; i < 4; i++) {
            x.cooked(1);
        }
        asked(x, 0, k -> k.wages());
    }

    private static void firstDue(int order, long want, Call call) {
        CookHands x = withDish(withDish(withDish(kitchen(COOK, STRIKER, THUMB), 1, 0, 1, 2), 1, 1, 1, 1), 1, 0, 0, 3, 1, 0, 0, 1);
        Call[] ahead = {k -> 0, k -> k.soonest(), k -> k.spared(), k -> k.strikeCost(), k -> k.help(1), k -> k.cold(60),
            k -> k.whose(7, 0), k -> k.whose(5, 0), k -> k.cooked(7), k -> k.row(0), k -> k.menu(3)};
        ahead[order % ahead.length].on(x);
        due(want, call.on(x));
    }

    private static void askedFirst() {
        of("... each asking call, as the first one and behind each other one");
        for (int order = 0; order < 11; order++) {
            firstDue(order, 4, k -> k.soonest());
            firstDue(order, 4, k -> k.row(0));
            firstDue(order, -5, k -> k.row(4));
            firstDue(order, 1, k -> k.cold(5));
            firstDue(order, 0, k -> k.help(0));
            firstDue(order, 0, k -> k.help(1));
            firstDue(order, 0, k -> k.spared());
            firstDue(order, 1, k -> k.strikeCost());
            firstDue(order, 7, k -> k.menu(4));
            firstDue(order, 3, k -> k.menu(3));
            firstDue(order, NONE, k -> k.whose(7, 0));
            firstDue(order, 1, k -> k.whose(5, 1));
            firstDue(order, 8, k -> k.wages());
            firstDue(order, 1, k -> k.letGo(0));
        }
    }
}
