/**
 * A kitchen in which each cook has one hand. ../shared/DOC.md says what each
 * call answers; its words stand here in capitals.
 */
public final class CookHands {
    public static final int NONE = -1, BAD = -2, NO = -3, FULL = -4;

    private static final int NOT_SO_MANY = -5;
    private static final int BAD_BESIDE_NONE = -10, NO_BESIDE_NONE = -20;
    private static final int FAULT_BASE = -10, REFUSED_ITEM_BASE = -1000;

    private static final int MOST_COOKS = 6, MOST_DISHES = 3, MOST_STEPS = 3;
    private static final int MOST_HANDS = 3, MOST_STEP_MINUTES = 5, MOST_WAGE = 9, MOST_KNIVES = 6;
    private static final int KNIVES_AT_FIRST = 2;
    /** Each minute of a plan brings a DISH on by one of its minutes, so no plan is longer than this. */
    private static final int MOST_MINUTES = MOST_DISHES * MOST_STEPS * MOST_STEP_MINUTES;
    private static final int LATEST_NINE = 60;
    private static final int TEXT_SIZE = 200, LONGEST_TYPED = 8;
    private static final int IMAGES = 2;
    private static final int ODDS = 20, LARGEST_SEED = 999999;
    private static final int HELP_FROM_NONE = 1000;

    /** The step of a DISH that does not go on, or has none left. */
    private static final int NO_STEP = 3;
    /** A key tells the step of each DISH by two bits; this one says that none goes on. */
    private static final int KEY_BITS = 2, KEYS = 64, KEY_OF_NONE = KEYS - 1;

    private final Kitchen kitchen = new Kitchen();
    private final Kitchen draft = new Kitchen();
    private final Kitchen[] images = new Kitchen[IMAGES];
    private final boolean[] kept = new boolean[IMAGES];
    private final Crew crew = new Crew(kitchen);
    private final Planner planner = new Planner(kitchen, crew);
    private final Card card = new Card();
    private final Fraction fraction = new Fraction();
    private int badCalls;
    private int noCalls;
    private int fullCalls;

    public CookHands() {
        for (int i = 0; i < IMAGES; i++) {
            images[i] = new Kitchen();
        }
    }

    // ---- a kitchen

    public int cook(int kind, int wage) {
        planner.forget();
        return noted(kitchen.addCook(kind, wage));
    }

    public int dish() {
        planner.forget();
        return noted(kitchen.addDish());
    }

    public int step(int dish, int right, int left, int knives, int minutes) {
        planner.forget();
        return noted(kitchen.addStep(dish, right, left, knives, minutes));
    }

    public int knives(int n) {
        planner.forget();
        return noted(kitchen.layKnives(n));
    }

    public int strike(boolean is) {
        planner.forget();
        return noted(kitchen.tellStrike(is));
    }

    public int hands(int cook, int what) {
        if (!kitchen.hasCook(cook) || what < 0 || what > 1) {
            return refuse(BAD, BAD);
        }
        int kind = kitchen.kindOf(cook);
        return what == 0 ? Kind.rightHands(kind, kitchen.strike) : Kind.leftHands(kind, kitchen.strike);
    }

    public int type(long v, int n) {
        if (n < 1 || n > LONGEST_TYPED) {
            return refuse(BAD, BAD);
        }
        if (card.length + n > TEXT_SIZE) {
            return refuse(FULL, FULL);
        }
        card.append(v, n);
        return card.length;
    }

    public int clear() {
        int had = card.length;
        card.length = 0;
        return had;
    }

    public int read() {
        int fault = card.parse();
        if (fault != NONE) {
            return FAULT_BASE - fault;
        }
        draft.empty();
        for (int i = 0; i < card.items; i++) {
            if (isRefusal(card.tellItem(i, draft))) {
                return REFUSED_ITEM_BASE - i;
            }
        }
        planner.forget();
        kitchen.copyFrom(draft);
        return card.items;
    }

    // ---- the soonest

    public int soonest() {
        return planner.plan();
    }

    public int row(int i) {
        if (i < 0) {
            return refuse(BAD, BAD_BESIDE_NONE);
        }
        planner.plan();
        return planner.row.setAt(i);
    }

    public int whose(int dishes, int j) {
        if (j < 0 || !kitchen.hasDishes(dishes) || kitchen.anyDone(dishes)) {
            return refuse(BAD, BAD_BESIDE_NONE);
        }
        if (!canGoOn(dishes)) {
            return NONE;
        }
        crew.lineUp(kitchen.keyOf(dishes));
        return crew.cookInRow(j);
    }

    public int cold(int nine) {
        if (nine < 0 || nine > LATEST_NINE) {
            return refuse(BAD, BAD);
        }
        planner.plan();
        return planner.coldest(nine);
    }

    public int help(int what) {
        if (what < 0 || what > 1) {
            return refuse(BAD, BAD_BESIDE_NONE);
        }
        int without = planner.plan();
        crew.gather(kitchen.strike);
        crew.addNobodysHand(what == 0);
        int with = planner.fewestMinutes();
        if (with == NONE) {
            return NONE;
        }
        return (without == NONE ? HELP_FROM_NONE : without) - with;
    }

    public int spared() {
        int all = planner.plan();
        if (all == NONE) {
            return NONE;
        }
        int bits = 0;
        for (int cook = 0; cook < kitchen.cooks; cook++) {
            crew.gather(kitchen.strike);
            crew.sendAway(cook);
            if (planner.fewestMinutes() == all) {
                bits |= 1 << cook;
            }
        }
        return bits;
    }

    public int strikeCost() {
        crew.gather(true);
        int struck = planner.fewestMinutes();
        crew.gather(false);
        int free = planner.fewestMinutes();
        return struck == NONE || free == NONE ? NONE : struck - free;
    }

    public int menu(int m) {
        if (m < 0 || m > LATEST_NINE) {
            return refuse(BAD, BAD);
        }
        planner.plan();
        int best = 0;
        for (int bits = 1; bits <= kitchen.allDishes(); bits++) {
            int minutes = planner.minutesFor(bits);
            if (minutes != NONE && minutes <= m && Integer.bitCount(bits) > Integer.bitCount(best)) {
                best = bits;
            }
        }
        return best;
    }

    // ---- burns, wages

    public int burns(int w) {
        if (w < 0 || w > ODDS) {
            return refuse(BAD, BAD);
        }
        if (planner.plan() == NONE) {
            return refuse(NO, NO);
        }
        fraction.setPower(ODDS - w, ODDS, planner.row.countShared());
        return 1;
    }

    public int drawn(int w, int seed) {
        if (w < 0 || w > ODDS || seed < 0 || seed > LARGEST_SEED) {
            return refuse(BAD, BAD_BESIDE_NONE);
        }
        if (planner.plan() == NONE) {
            return refuse(NO, NO_BESIDE_NONE);
        }
        return planner.row.firstBurnt(w, seed);
    }

    public int letGo(int cook) {
        if (!kitchen.hasCook(cook)) {
            return refuse(BAD, BAD);
        }
        if (planner.plan() == NONE) {
            return refuse(NO, NO);
        }
        int shared = planner.row.countShared();
        if (shared == 0) {
            fraction.setZero();
        } else {
            fraction.setPower(planner.row.countSharedBy(cook), shared, 1);
        }
        return 1;
    }

    public int wages() {
        return planner.plan() == NONE ? NONE : planner.row.sumOfWages(kitchen);
    }

    // ---- cooking

    public int cooked(int dishes) {
        if (dishes == 0 || !kitchen.hasDishes(dishes)) {
            return refuse(BAD, BAD);
        }
        if (kitchen.anyDone(dishes) || (kitchen.begunDishes() & ~dishes) != 0 || !canGoOn(dishes)) {
            return refuse(NO, NO);
        }
        planner.forget();
        kitchen.goOn(dishes);
        return kitchen.doneCount();
    }

    public int undo() {
        planner.forget();
        return kitchen.goBack() ? 1 : refuse(NO, NO);
    }

    public int state(int dish, int what) {
        if (!kitchen.hasDish(dish) || what < 0 || what > 1) {
            return refuse(BAD, BAD);
        }
        return stateOf(kitchen.dishAt(dish), what);
    }

    // ---- what there is

    public int sign(int what) {
        if (what < 0 || what > 2) {
            return refuse(BAD, BAD);
        }
        return signOf(what);
    }

    public int limb(int which, int i) {
        if (which < 0 || which > 1 || i < 0) {
            return refuse(BAD, BAD);
        }
        return (which == 0 ? fraction.above : fraction.below).limbAt(i);
    }

    public int image(int i) {
        if (i < 0 || i >= IMAGES) {
            return refuse(BAD, BAD);
        }
        images[i].copyFrom(kitchen);
        kept[i] = true;
        return 1;
    }

    public int from(int i) {
        if (i < 0 || i >= IMAGES) {
            return refuse(BAD, BAD);
        }
        if (!kept[i]) {
            return refuse(NO, NO);
        }
        planner.forget();
        kitchen.copyFrom(images[i]);
        return 1;
    }

    public int status(int what) {
        switch (what) {
            case 0: return badCalls;
            case 1: return noCalls;
            case 2: return fullCalls;
            default: return refuse(BAD, NONE);
        }
    }

    public int count(int what) {
        return what < 0 || what > 4 ? refuse(BAD, BAD) : countOf(what);
    }

    public long digest() {
        long h = 709;
        for (int what = 0; what <= 4; what++) {
            h = 31 * h + countOf(what);
        }
        h = kitchen.digestOnto(h);
        for (int i = 0; i < kitchen.dishCount; i++) {
            Dish dish = kitchen.dishAt(i);
            h = 31 * h + stateOf(dish, 0);
            h = 31 * h + stateOf(dish, 1);
        }
        for (int what = 0; what <= 2; what++) {
            h = 31 * h + signOf(what);
        }
        return fraction.below.digestOnto(fraction.above.digestOnto(h));
    }

    // ---- helpers of the calls

    private static boolean isRefusal(int answer) {
        return answer == BAD || answer == NO || answer == FULL;
    }

    private int noted(int answer) {
        return isRefusal(answer) ? refuse(answer, answer) : answer;
    }

    private int refuse(int reason, int answer) {
        if (reason == BAD) {
            badCalls++;
        } else if (reason == NO) {
            noCalls++;
        } else {
            fullCalls++;
        }
        return answer;
    }

    private boolean canGoOn(int dishes) {
        crew.gather(kitchen.strike);
        return crew.isEnoughFor(kitchen.keyOf(dishes));
    }

    private static boolean isIn(int bits, int i) {
        return (bits >> i & 1) != 0;
    }

    private static int keyWithStep(int key, int dish, int step) {
        int shift = KEY_BITS * dish;
        return key & ~(NO_STEP << shift) | step << shift;
    }

    private static int stepInKey(int key, int dish) {
        return key >> KEY_BITS * dish & NO_STEP;
    }

    private static int stateOf(Dish dish, int what) {
        return what == 0 ? dish.stepAfter(dish.minutesDone) : dish.minutesInStepAfter(dish.minutesDone);
    }

    private int signOf(int what) {
        switch (what) {
            case 0: return fraction.above.isZero() ? 0 : 1;
            case 1: return fraction.above.length;
            default: return fraction.below.length;
        }
    }

    private int countOf(int what) {
        switch (what) {
            case 0: return kitchen.cooks;
            case 1: return kitchen.dishCount;
            case 2: return kitchen.knives;
            case 3: return kitchen.minutesCooked;
            default: return card.length;
        }
    }

    /** The KINDS of COOKS, by their numbers. */
    private static final class Kind {
        private static final int APPRENTICE = 2, STRIKER = 4, THUMB = 5, KINDS = 6;
        private static final int[] RIGHT = {1, 0, 1, 1, 1, 1};
        private static final int[] LEFT = {0, 1, 0, 1, 0, 1};

        private static boolean isOne(int kind) {
            return kind >= 0 && kind < KINDS;
        }

        private static int rightHands(int kind, boolean strike) {
            return isOne(kind) && !isOut(kind, strike) ? RIGHT[kind] : 0;
        }

        private static int leftHands(int kind, boolean strike) {
            return isOne(kind) && !isOut(kind, strike) ? LEFT[kind] : 0;
        }

        private static boolean isOut(int kind, boolean strike) {
            return strike && kind == STRIKER;
        }

        private static boolean holdsKnives(int kind) {
            return kind != APPRENTICE && kind != THUMB;
        }
    }

    /** A DISH: its STEPS, and how many of their minutes are done. */
    private static final class Dish {
        private final int[] right = new int[MOST_STEPS];
        private final int[] left = new int[MOST_STEPS];
        private final int[] knives = new int[MOST_STEPS];
        private final int[] minutes = new int[MOST_STEPS];
        private int steps;
        private int minutesDone;

        private void add(int rightHands, int leftHands, int knivesHeld, int minutesLong) {
            if (steps < MOST_STEPS) {
                right[steps] = rightHands;
                left[steps] = leftHands;
                knives[steps] = knivesHeld;
                minutes[steps] = minutesLong;
                steps++;
            }
        }

        private void copyFrom(Dish other) {
            System.arraycopy(other.right, 0, right, 0, MOST_STEPS);
            System.arraycopy(other.left, 0, left, 0, MOST_STEPS);
            System.arraycopy(other.knives, 0, knives, 0, MOST_STEPS);
            System.arraycopy(other.minutes, 0, minutes, 0, MOST_STEPS);
            steps = other.steps;
            minutesDone = other.minutesDone;
        }

        private int minutesLong() {
            int sum = 0;
            for (int i = 0; i < steps; i++) {
                sum += minutes[i];
            }
            return sum;
        }

        private boolean hasStep(int step) {
            return step >= 0 && step < steps && step < MOST_STEPS;
        }

        /** None, if there is no such STEP: such a DISH does not go on. */
        private int handsOf(int step) {
            return hasStep(step) ? right[step] + left[step] : 0;
        }

        /** The RIGHT hands of a STEP are the first of its hands. */
        private boolean isRightHand(int step, int hand) {
            return hasStep(step) && hand < right[step];
        }

        /** Whether this hand of a STEP holds one of its KNIVES. */
        private boolean isSharpHand(int step, int hand) {
            return hasStep(step) && hand < knives[step];
        }

        private boolean isDone() {
            return minutesDone >= minutesLong();
        }

        /** How many STEPS are done after so many minutes. */
        private int stepAfter(int past) {
            int end = 0;
            for (int i = 0; i < steps; i++) {
                end += minutes[i];
                if (past < end) {
                    return i;
                }
            }
            return steps;
        }

        /** How many minutes of the next STEP are done after so many minutes. */
        private int minutesInStepAfter(int past) {
            int rest = past;
            int next = stepAfter(past);
            for (int i = 0; i < next; i++) {
                rest -= minutes[i];
            }
            return rest;
        }

        private long digestOnto(long digest) {
            long h = 31 * digest + steps;
            for (int i = 0; i < steps; i++) {
                h = 31 * h + right[i];
                h = 31 * h + left[i];
                h = 31 * h + knives[i];
                h = 31 * h + minutes[i];
            }
            return h;
        }
    }

    /** What is told of the kitchen, and what is cooked in it: all that an IMAGE keeps. */
    private static final class Kitchen {
        private final int[] kinds = new int[MOST_COOKS];
        private final int[] wagesTold = new int[MOST_COOKS];
        private int cooks;
        private final Dish[] dishes = new Dish[MOST_DISHES];
        private int dishCount;
        private int knives = KNIVES_AT_FIRST;
        private boolean strike;
        /** The DISHES of each minute cooked, as bits: what UNDO takes back. */
        private final int[] past = new int[MOST_MINUTES];
        private int minutesCooked;

        private Kitchen() {
            for (int i = 0; i < MOST_DISHES; i++) {
                dishes[i] = new Dish();
            }
        }

        private void empty() {
            cooks = 0;
            dishCount = 0;
            knives = KNIVES_AT_FIRST;
            strike = false;
            for (int i = 0; i < MOST_DISHES; i++) {
                dishes[i].steps = 0;
            }
            beginAnew();
        }

        private void copyFrom(Kitchen other) {
            System.arraycopy(other.kinds, 0, kinds, 0, MOST_COOKS);
            System.arraycopy(other.wagesTold, 0, wagesTold, 0, MOST_COOKS);
            cooks = other.cooks;
            for (int i = 0; i < MOST_DISHES; i++) {
                dishes[i].copyFrom(other.dishes[i]);
            }
            dishCount = other.dishCount;
            knives = other.knives;
            strike = other.strike;
            System.arraycopy(other.past, 0, past, 0, MOST_MINUTES);
            minutesCooked = other.minutesCooked;
        }

        private int addCook(int kind, int wage) {
            if (!Kind.isOne(kind) || wage < 0 || wage > MOST_WAGE) {
                return BAD;
            }
            if (cooks >= MOST_COOKS) {
                return FULL;
            }
            kinds[cooks] = kind;
            wagesTold[cooks] = wage;
            cooks++;
            beginAnew();
            return cooks - 1;
        }

        private int addDish() {
            if (dishCount >= MOST_DISHES) {
                return FULL;
            }
            dishCount++;
            beginAnew();
            return dishCount - 1;
        }

        private int addStep(int dish, int right, int left, int knivesHeld, int minutes) {
            boolean handsGood = right >= 0 && right <= MOST_HANDS && left >= 0 && left <= MOST_HANDS
                && right + left > 0;
            if (!hasDish(dish) || !handsGood || knivesHeld < 0 || knivesHeld > right + left
                || minutes < 1 || minutes > MOST_STEP_MINUTES) {
                return BAD;
            }
            if (dishes[dish].steps >= MOST_STEPS) {
                return FULL;
            }
            dishes[dish].add(right, left, knivesHeld, minutes);
            beginAnew();
            return dishes[dish].steps - 1;
        }

        private int layKnives(int n) {
            if (n < 0 || n > MOST_KNIVES) {
                return BAD;
            }
            int had = knives;
            knives = n;
            beginAnew();
            return had;
        }

        private int tellStrike(boolean is) {
            if (strike == is) {
                return NO;
            }
            strike = is;
            beginAnew();
            return 1;
        }

        private void beginAnew() {
            for (int i = 0; i < MOST_DISHES; i++) {
                dishes[i].minutesDone = 0;
            }
            minutesCooked = 0;
        }

        private boolean hasCook(int cook) {
            return cook >= 0 && cook < cooks;
        }

        private int kindOf(int cook) {
            return hasCook(cook) ? kinds[cook] : NONE;
        }

        private int wageOf(int cook) {
            return hasCook(cook) ? wagesTold[cook] : 0;
        }

        private boolean hasDish(int dish) {
            return dish >= 0 && dish < dishCount;
        }

        /** A DISH that is not there stands empty behind the others, so that three can always be planned. */
        private Dish dishAt(int dish) {
            return dishes[dish >= 0 && dish < MOST_DISHES ? dish : 0];
        }

        private int allDishes() {
            return (1 << dishCount) - 1;
        }

        private boolean hasDishes(int bits) {
            return (bits & ~allDishes()) == 0;
        }

        private boolean anyDone(int bits) {
            for (int i = 0; i < dishCount; i++) {
                if (isIn(bits, i) && dishes[i].isDone()) {
                    return true;
                }
            }
            return false;
        }

        private int doneCount() {
            int sum = 0;
            for (int i = 0; i < dishCount; i++) {
                sum += dishes[i].isDone() ? 1 : 0;
            }
            return sum;
        }

        private int begunDishes() {
            int bits = 0;
            for (int i = 0; i < dishCount; i++) {
                if (dishes[i].minutesInStepAfter(dishes[i].minutesDone) > 0) {
                    bits |= 1 << i;
                }
            }
            return bits;
        }

        /** The key of a minute in which these DISHES go on with their next STEPS. */
        private int keyOf(int bits) {
            int key = KEY_OF_NONE;
            for (int i = 0; i < dishCount; i++) {
                if (isIn(bits, i) && !dishes[i].isDone()) {
                    key = keyWithStep(key, i, dishes[i].stepAfter(dishes[i].minutesDone));
                }
            }
            return key;
        }

        private void goOn(int bits) {
            if (minutesCooked >= MOST_MINUTES) {
                return;
            }
            past[minutesCooked] = bits;
            minutesCooked++;
            bringOn(bits, 1);
        }

        private boolean goBack() {
            if (minutesCooked <= 0 || minutesCooked > MOST_MINUTES) {
                return false;
            }
            minutesCooked--;
            bringOn(past[minutesCooked], -1);
            return true;
        }

        private void bringOn(int bits, int minutes) {
            for (int i = 0; i < dishCount; i++) {
                if (isIn(bits, i)) {
                    dishes[i].minutesDone += minutes;
                }
            }
        }

        private long digestOnto(long digest) {
            long h = 31 * digest + (strike ? 1 : 0);
            for (int i = 0; i < cooks; i++) {
                h = 31 * h + kinds[i];
                h = 31 * h + wagesTold[i];
            }
            for (int i = 0; i < dishCount; i++) {
                h = dishes[i].digestOnto(h);
            }
            return h;
        }
    }

    /** How many hands of each sort are there, or needed; sharp ones hold a KNIFE or may. */
    private static final class Hands {
        private int sharpRight;
        private int bluntRight;
        private int sharpLeft;
        private int bluntLeft;
        /** Of THUMBS: each is one hand of either side. */
        private int either;

        private void empty() {
            sharpRight = 0;
            bluntRight = 0;
            sharpLeft = 0;
            bluntLeft = 0;
            either = 0;
        }

        private void add(boolean isRight, boolean isSharp, int n) {
            if (isRight && isSharp) {
                sharpRight += n;
            } else if (isRight) {
                bluntRight += n;
            } else if (isSharp) {
                sharpLeft += n;
            } else {
                bluntLeft += n;
            }
        }

        /** KNIVES are held with the first hands of a STEP, and its RIGHT ones come first. */
        private void addStep(int right, int left, int knives) {
            int knivesRight = knives < right ? knives : right;
            int knivesLeft = knives - knivesRight;
            sharpRight += knivesRight;
            bluntRight += right - knivesRight;
            sharpLeft += knivesLeft;
            bluntLeft += left - knivesLeft;
        }

        /** Only THUMBS bind the sides together, so the sides can be counted each alone first. */
        private boolean covers(Hands needed) {
            int spareRight = sharpRight - needed.sharpRight;
            int spareLeft = sharpLeft - needed.sharpLeft;
            if (spareRight < 0 || spareLeft < 0) {
                return false;
            }
            int shortRight = Math.max(0, needed.bluntRight - bluntRight - spareRight);
            int shortLeft = Math.max(0, needed.bluntLeft - bluntLeft - spareLeft);
            return shortRight + shortLeft <= either;
        }
    }

    /** Who is at hand in a minute, and whose HANDS the STEPS of that minute get. */
    private static final class Crew {
        private static final int LONGEST_ROW = MOST_DISHES * 2 * MOST_HANDS;

        private final Kitchen kitchen;
        private final boolean[] rightFree = new boolean[MOST_COOKS];
        private final boolean[] leftFree = new boolean[MOST_COOKS];
        private final boolean[] holdsKnives = new boolean[MOST_COOKS];
        private final boolean[] oneForBoth = new boolean[MOST_COOKS];
        private final Hands there = new Hands();
        private final Hands needed = new Hands();
        private int knivesNeeded;
        private final int[] cooksInRow = new int[LONGEST_ROW];
        private int length;
        /** The COOKS of each DISH in the row, as bits. */
        private final int[] teams = new int[MOST_DISHES];

        private Crew(Kitchen kitchen) {
            this.kitchen = kitchen;
        }

        private void gather(boolean strike) {
            there.empty();
            for (int cook = 0; cook < MOST_COOKS; cook++) {
                int kind = kitchen.kindOf(cook);
                holdsKnives[cook] = Kind.holdsKnives(kind);
                oneForBoth[cook] = kind == Kind.THUMB;
                rightFree[cook] = false;
                leftFree[cook] = false;
                if (Kind.rightHands(kind, strike) > 0) {
                    setFree(cook, true, true);
                }
                if (Kind.leftHands(kind, strike) > 0 && !leftFree[cook]) {
                    setFree(cook, false, true);
                }
            }
        }

        private void addNobodysHand(boolean isRight) {
            there.add(isRight, false, 1);
        }

        private void sendAway(int cook) {
            if (cook < 0 || cook >= MOST_COOKS) {
                return;
            }
            if (rightFree[cook]) {
                setFree(cook, true, false);
            }
            if (leftFree[cook]) {
                setFree(cook, false, false);
            }
        }

        /** The one hand of a THUMB is free, or not, on both sides at once. */
        private void setFree(int cook, boolean isRight, boolean isFree) {
            int change = isFree ? 1 : -1;
            if (oneForBoth[cook]) {
                there.either += change;
            } else {
                there.add(isRight, holdsKnives[cook], change);
            }
            if (isRight || oneForBoth[cook]) {
                rightFree[cook] = isFree;
            }
            if (!isRight || oneForBoth[cook]) {
                leftFree[cook] = isFree;
            }
        }

        private boolean isEnoughFor(int key) {
            askFor(key);
            return knivesNeeded <= kitchen.knives && there.covers(needed);
        }

        private void askFor(int key) {
            needed.empty();
            knivesNeeded = 0;
            for (int i = 0; i < MOST_DISHES; i++) {
                Dish dish = kitchen.dishAt(i);
                int step = stepInKey(key, i);
                if (dish.hasStep(step)) {
                    needed.addStep(dish.right[step], dish.left[step], dish.knives[step]);
                    knivesNeeded += dish.knives[step];
                }
            }
        }

        /** Writes the row of HANDS for a minute that the COOKS gathered are enough for. */
        private void lineUp(int key) {
            askFor(key);
            length = 0;
            for (int i = 0; i < MOST_DISHES; i++) {
                Dish dish = kitchen.dishAt(i);
                int step = stepInKey(key, i);
                teams[i] = 0;
                for (int hand = 0; hand < dish.handsOf(step); hand++) {
                    int cook = firstFor(dish.isRightHand(step, hand), dish.isSharpHand(step, hand));
                    if (cook == NONE || length >= LONGEST_ROW) {
                        return;
                    }
                    cooksInRow[length] = cook;
                    length++;
                    teams[i] |= 1 << cook;
                }
            }
        }

        /** The first COOK who has this hand and leaves enough for all hands behind it; he gives it. */
        private int firstFor(boolean isRight, boolean isSharp) {
            needed.add(isRight, isSharp, -1);
            for (int cook = 0; cook < MOST_COOKS; cook++) {
                if (canGive(cook, isRight, isSharp)) {
                    setFree(cook, isRight, false);
                    if (there.covers(needed)) {
                        return cook;
                    }
                    setFree(cook, isRight, true);
                }
            }
            return NONE;
        }

        private boolean canGive(int cook, boolean isRight, boolean isSharp) {
            boolean isFree = isRight ? rightFree[cook] : leftFree[cook];
            return isFree && (!isSharp || holdsKnives[cook]);
        }

        private int cookInRow(int j) {
            return j >= 0 && j < length ? cooksInRow[j] : NOT_SO_MANY;
        }

        private int teamOf(int dish) {
            return dish >= 0 && dish < MOST_DISHES ? teams[dish] : 0;
        }
    }

    /** ROW: of each minute the DISHES that go on, and the COOKS by whom. */
    private static final class Row {
        private final int[] sets = new int[MOST_MINUTES];
        /** The COOKS of each DISH in each minute, as bits. */
        private final int[] teams = new int[MOST_MINUTES * MOST_DISHES];
        private int minutes;

        private void empty() {
            minutes = 0;
        }

        private void add(int set, Crew crew) {
            if (minutes < MOST_MINUTES) {
                sets[minutes] = set;
                for (int i = 0; i < MOST_DISHES; i++) {
                    teams[minutes * MOST_DISHES + i] = crew.teamOf(i);
                }
                minutes++;
            }
        }

        private int setAt(int minute) {
            return minute >= 0 && minute < minutes && minute < MOST_MINUTES ? sets[minute] : NOT_SO_MANY;
        }

        private int teamAt(int minute, int dish) {
            int at = minute * MOST_DISHES + dish;
            return at >= 0 && at < teams.length ? teams[at] : 0;
        }

        /** Whether a DISH goes on in that minute by two COOKS or more: then it may burn. */
        private boolean isShared(int minute, int dish) {
            return Integer.bitCount(teamAt(minute, dish)) >= 2;
        }

        private int countShared() {
            int sum = 0;
            for (int minute = 0; minute < minutes; minute++) {
                for (int dish = 0; dish < MOST_DISHES; dish++) {
                    sum += isShared(minute, dish) ? 1 : 0;
                }
            }
            return sum;
        }

        private int countSharedBy(int cook) {
            int sum = 0;
            for (int minute = 0; minute < minutes; minute++) {
                for (int dish = 0; dish < MOST_DISHES; dish++) {
                    sum += isShared(minute, dish) && isIn(teamAt(minute, dish), cook) ? 1 : 0;
                }
            }
            return sum;
        }

        private int firstBurnt(int w, int seed) {
            long x = seed;
            for (int minute = 0; minute < minutes; minute++) {
                for (int dish = 0; dish < MOST_DISHES; dish++) {
                    if (isShared(minute, dish)) {
                        x = (x * 1103515245L + 12345L) % 2147483648L;
                        if (x / 65536L % ODDS < w) {
                            return 10 * minute + dish;
                        }
                    }
                }
            }
            return NONE;
        }

        private int sumOfWages(Kitchen kitchen) {
            int sum = 0;
            for (int minute = 0; minute < minutes; minute++) {
                int atWork = teamAt(minute, 0) | teamAt(minute, 1) | teamAt(minute, 2);
                for (int cook = 0; cook < kitchen.cooks; cook++) {
                    sum += isIn(atWork, cook) ? kitchen.wageOf(cook) : 0;
                }
            }
            return sum;
        }
    }

    /**
     * SOONEST, ROW, COLD: over all states of three DISHES from now on. A state
     * holds of each DISH the minutes done in all, by four bits; a set holds
     * DISHES as bits.
     */
    private static final class Planner {
        private static final int PLACE_BITS = 4, PLACES = 1 << PLACE_BITS, STATES = PLACES * PLACES * PLACES;
        private static final int SETS = 1 << MOST_DISHES;
        /** What a state grows by when a set goes on. */
        private static final int[] STRIDE = {0, 1, 16, 17, 256, 257, 272, 273};
        /** What makes NO_STEP in a key of all DISHES outside a set. */
        private static final int[] OUTSIDE = {63, 60, 51, 48, 15, 12, 3, 0};
        /** The sets that hold all DISHES of a set, a bit for each. */
        private static final int[] HOLDING = {255, 170, 204, 136, 240, 160, 192, 128};
        /** More than any sum of minutes, and far from overflow. */
        private static final int NEVER = 1000000;

        private final Kitchen kitchen;
        private final Crew crew;
        private final Row row = new Row();
        private boolean isKnown;
        private int soonestMinutes;
        private final int[] now = new int[MOST_DISHES];
        private final int[] end = new int[MOST_DISHES];
        private final int[] stepAt = new int[MOST_DISHES * PLACES];
        private final boolean[] begunAt = new boolean[MOST_DISHES * PLACES];
        private final boolean[] canBe = new boolean[KEYS];
        /** Of each key the sets of its DISHES that can go on, a bit for each. */
        private final int[] openSets = new int[KEYS];
        private final int[] states = new int[STATES];
        private int stateCount;
        /** Of each state the sets that may go on in it, a bit for each. */
        private final int[] moves = new int[STATES];
        private final int[] fewest = new int[STATES];
        private final int[] coldSums = new int[STATES];

        private Planner(Kitchen kitchen, Crew crew) {
            this.kitchen = kitchen;
            this.crew = crew;
        }

        private void forget() {
            isKnown = false;
        }

        /** SOONEST or NONE; the ROW and all that the other answers need is laid ready. */
        private int plan() {
            if (!isKnown) {
                crew.gather(kitchen.strike);
                soonestMinutes = survey();
                writeRow();
                isKnown = true;
            }
            return soonestMinutes;
        }

        /** SOONEST or NONE with the COOKS that are gathered just now. */
        private int fewestMinutes() {
            isKnown = false;
            return survey();
        }

        private int survey() {
            layPlaces();
            layOpenSets();
            layStates();
            countFewest();
            return minutesFor(SETS - 1);
        }

        private void layPlaces() {
            for (int i = 0; i < MOST_DISHES; i++) {
                Dish dish = kitchen.dishAt(i);
                now[i] = Math.min(dish.minutesDone, PLACES - 1);
                end[i] = Math.min(dish.minutesLong(), PLACES - 1);
                for (int place = 0; place < PLACES; place++) {
                    stepAt[i * PLACES + place] = place < end[i] ? dish.stepAfter(place) : NO_STEP;
                    begunAt[i * PLACES + place] = place < end[i] && dish.minutesInStepAfter(place) > 0;
                }
            }
        }

        private void layOpenSets() {
            for (int key = 0; key < KEYS; key++) {
                canBe[key] = crew.isEnoughFor(key);
            }
            for (int key = 0; key < KEYS; key++) {
                int open = 0;
                for (int set = 0; set < SETS; set++) {
                    if (hasSteps(key, set) && canBe[key | OUTSIDE[set]]) {
                        open |= 1 << set;
                    }
                }
                openSets[key] = open;
            }
        }

        private static boolean hasSteps(int key, int set) {
            for (int i = 0; i < MOST_DISHES; i++) {
                if (isIn(set, i) && stepInKey(key, i) == NO_STEP) {
                    return false;
                }
            }
            return true;
        }

        private static int stateOfPlaces(int first, int second, int third) {
            return first | second << PLACE_BITS | third << 2 * PLACE_BITS;
        }

        private static int placeIn(int state, int dish) {
            return state >> PLACE_BITS * dish & PLACES - 1;
        }

        /** The states come so that each is ahead of all that follow from it. */
        private void layStates() {
            stateCount = 0;
            for (int third = now[2]; third <= end[2]; third++) {
                for (int second = now[1]; second <= end[1]; second++) {
                    for (int first = now[0]; first <= end[0]; first++) {
                        int state = stateOfPlaces(first, second, third);
                        states[stateCount] = state;
                        stateCount++;
                        moves[state] = openSets[keyOfState(state)] & HOLDING[begunIn(state)];
                    }
                }
            }
        }

        /** The key of a minute in which all DISHES go on that are not done. */
        private int keyOfState(int state) {
            int key = 0;
            for (int i = 0; i < MOST_DISHES; i++) {
                key |= stepAt[i * PLACES + placeIn(state, i)] << KEY_BITS * i;
            }
            return key;
        }

        private int begunIn(int state) {
            int set = 0;
            for (int i = 0; i < MOST_DISHES; i++) {
                set |= begunAt[i * PLACES + placeIn(state, i)] ? 1 << i : 0;
            }
            return set;
        }

        private static int stateBehind(int state, int set) {
            int next = state + STRIDE[set];
            return next < STATES ? next : state;
        }

        private int firstState() {
            return stateOfPlaces(now[0], now[1], now[2]);
        }

        private int lastState() {
            return stateOfPlaces(end[0], end[1], end[2]);
        }

        private void countFewest() {
            for (int i = stateCount - 1; i >= 0; i--) {
                int state = states[i];
                fewest[state] = state == lastState() ? 0 : 1 + leastBehind(fewest, state, 1);
            }
        }

        /** The least number of the states that a set from the first one on leads to, or NEVER. */
        private int leastBehind(int[] numbers, int state, int firstSet) {
            int least = NEVER;
            int open = moves[state] >> firstSet;
            for (int set = firstSet; set < SETS && open != 0; set++) {
                if ((open & 1) != 0) {
                    least = Math.min(least, numbers[stateBehind(state, set)]);
                }
                open >>= 1;
            }
            return least;
        }

        /** The fewest minutes for a set, were no other DISHES there; or NONE. */
        private int minutesFor(int set) {
            int first = isIn(set, 0) ? now[0] : end[0];
            int second = isIn(set, 1) ? now[1] : end[1];
            int third = isIn(set, 2) ? now[2] : end[2];
            int minutes = fewest[stateOfPlaces(first, second, third)];
            return minutes < NEVER ? minutes : NONE;
        }

        private void writeRow() {
            row.empty();
            int state = firstState();
            for (int minute = 0; minute < soonestMinutes; minute++) {
                int set = firstShortening(state);
                crew.gather(kitchen.strike);
                crew.lineUp(keyOfState(state) | OUTSIDE[set]);
                row.add(set, crew);
                state = stateBehind(state, set);
            }
        }

        private int firstShortening(int state) {
            for (int set = 1; set < SETS; set++) {
                if (isIn(moves[state], set) && fewest[stateBehind(state, set)] == fewest[state] - 1) {
                    return set;
                }
            }
            return 0;
        }

        /**
         * COLD: a DISH that is done goes cold by a minute in each minute behind
         * it, so a state costs a minute of each DISH done in it. After a round
         * the sums hold for one minute more ahead of NINE; a state's own old
         * sum is that of waiting, and those behind it are not yet overwritten.
         */
        private int coldest(int nine) {
            for (int i = 0; i < stateCount; i++) {
                coldSums[states[i]] = states[i] == lastState() ? 0 : NEVER;
            }
            for (int left = 1; left <= nine; left++) {
                for (int i = 0; i < stateCount; i++) {
                    int state = states[i];
                    if (fewest[state] <= left) {
                        coldSums[state] = doneIn(state) + leastBehind(coldSums, state, 0);
                    }
                }
            }
            int sum = coldSums[firstState()];
            return sum < NEVER ? sum : NONE;
        }

        private int doneIn(int state) {
            int sum = 0;
            for (int i = 0; i < kitchen.dishCount; i++) {
                sum += placeIn(state, i) == end[i] ? 1 : 0;
            }
            return sum;
        }
    }

    /** THE TEXT, and the ITEMS of THE CARD that it is. */
    private static final class Card {
        private static final int BLANK = 32;
        private static final int MOST_FIGURES = 2, MOST_NUMBERS = 5;
        private static final int COOK_WORD = 0, DISH_WORD = 1, STEP_WORD = 2, KNIVES_WORD = 3, STRIKE_WORD = 4;
        /** How many numbers are told behind each word. */
        private static final int[] NUMBERS_BEHIND = {2, 0, 5, 1, 0};
        /** The shortest ITEM is "dish;". */
        private static final int MOST_ITEMS = TEXT_SIZE / 5;

        private final int[] text = new int[TEXT_SIZE];
        private int length;
        /** Where the next TOKEN is looked for. */
        private int place;
        private final int[] words = new int[MOST_ITEMS];
        private final int[] numbers = new int[MOST_ITEMS * MOST_NUMBERS];
        private int items;

        private void append(long v, int n) {
            for (int i = n - 1; i >= 0 && length < TEXT_SIZE; i--) {
                text[length] = (int) (v >> 8 * i & 255);
                length++;
            }
        }

        /** The FAULT or NONE; without one the ITEMS are put down. */
        private int parse() {
            place = 0;
            items = 0;
            skipBlanks();
            for (int i = 0; i < MOST_ITEMS && place < length; i++) {
                if (!takeItem()) {
                    return place;
                }
                items++;
                skipBlanks();
            }
            return NONE;
        }

        /** If an ITEM does not stand here, the place is left at the first TOKEN that can not stand there. */
        private boolean takeItem() {
            int word = takeWord();
            if (word == NONE || items >= MOST_ITEMS) {
                return false;
            }
            words[items] = word;
            for (int i = 0; i < NUMBERS_BEHIND[word]; i++) {
                int number = takeNumber();
                if (number == NONE) {
                    return false;
                }
                numbers[items * MOST_NUMBERS + i] = number;
            }
            return takeSemicolon();
        }

        private int takeWord() {
            int behind = runEnd('a', 'z');
            int word = NONE;
            if (isSpelt("cook", behind)) {
                word = COOK_WORD;
            } else if (isSpelt("dish", behind)) {
                word = DISH_WORD;
            } else if (isSpelt("step", behind)) {
                word = STEP_WORD;
            } else if (isSpelt("knives", behind)) {
                word = KNIVES_WORD;
            } else if (isSpelt("strike", behind)) {
                word = STRIKE_WORD;
            }
            if (word != NONE) {
                place = behind;
                skipBlanks();
            }
            return word;
        }

        private int takeNumber() {
            int behind = runEnd('0', '9');
            if (behind == place || behind - place > MOST_FIGURES) {
                return NONE;
            }
            int number = 0;
            for (int i = place; i < behind; i++) {
                number = 10 * number + byteAt(i) - '0';
            }
            place = behind;
            skipBlanks();
            return number;
        }

        private boolean takeSemicolon() {
            if (byteAt(place) != ';') {
                return false;
            }
            place++;
            return true;
        }

        private void skipBlanks() {
            place = runEnd(BLANK, BLANK);
        }

        /** The place behind the run of such bytes that begins here. */
        private int runEnd(int lowest, int highest) {
            int at = place;
            while (at < length && byteAt(at) >= lowest && byteAt(at) <= highest) {
                at++;
            }
            return at;
        }

        private boolean isSpelt(String word, int behind) {
            if (behind - place != word.length()) {
                return false;
            }
            for (int i = 0; i < word.length(); i++) {
                if (byteAt(place + i) != word.charAt(i)) {
                    return false;
                }
            }
            return true;
        }

        private int byteAt(int i) {
            return i >= 0 && i < length && i < TEXT_SIZE ? text[i] : NONE;
        }

        /** Tells a kitchen the ITEM, and answers as the call of that name does. */
        private int tellItem(int item, Kitchen kitchen) {
            if (item < 0 || item >= items || item >= MOST_ITEMS) {
                return BAD;
            }
            int at = item * MOST_NUMBERS;
            switch (words[item]) {
                case COOK_WORD: return kitchen.addCook(numbers[at], numbers[at + 1]);
                case DISH_WORD: return kitchen.addDish();
                case STEP_WORD: return kitchen.addStep(numbers[at], numbers[at + 1], numbers[at + 2],
                    numbers[at + 3], numbers[at + 4]);
                case KNIVES_WORD: return kitchen.layKnives(numbers[at]);
                default: return kitchen.tellStrike(true);
            }
        }
    }

    /** THE FRACTION. */
    private static final class Fraction {
        private final Limbs above = new Limbs(0);
        private final Limbs below = new Limbs(1);

        private void setZero() {
            above.set(0);
            below.set(1);
        }

        /** (a / b) to the n; lowest terms of the root make lowest terms of the power. */
        private void setPower(int a, int b, int n) {
            int common = commonDivisor(a, b);
            if (common <= 0) {
                setZero();
                return;
            }
            above.set(1);
            below.set(1);
            for (int i = 0; i < n; i++) {
                above.multiply(a / common);
                below.multiply(b / common);
            }
            if (above.isZero()) {
                setZero();
            }
        }

        private static int commonDivisor(int a, int b) {
            for (int c = Math.max(a, b); c > 1; c--) {
                if (a % c == 0 && b % c == 0) {
                    return c;
                }
            }
            return 1;
        }
    }

    /** A whole number from 0 on, as limbs. */
    private static final class Limbs {
        private static final int LIMB_BITS = 30;
        private static final long BASE = 1L << LIMB_BITS;
        /** 20 to the 45 is below the base to the 7. */
        private static final int MOST_LIMBS = 8;

        private final int[] digits = new int[MOST_LIMBS];
        private int length;

        private Limbs(int value) {
            set(value);
        }

        private void set(int value) {
            digits[0] = value;
            length = value == 0 ? 0 : 1;
        }

        private boolean isZero() {
            return length == 0;
        }

        private void multiply(int factor) {
            if (factor == 0) {
                set(0);
                return;
            }
            long carry = 0;
            for (int i = 0; i < length && i < MOST_LIMBS; i++) {
                carry += (long) digits[i] * factor;
                digits[i] = (int) (carry % BASE);
                carry /= BASE;
            }
            if (carry > 0 && length < MOST_LIMBS) {
                digits[length] = (int) carry;
                length++;
            }
        }

        private int limbAt(int i) {
            return i >= 0 && i < length && i < MOST_LIMBS ? digits[i] : NONE;
        }

        private long digestOnto(long digest) {
            long h = digest;
            for (int i = 0; i < length && i < MOST_LIMBS; i++) {
                h = 31 * h + digits[i];
            }
            return h;
        }
    }
}
