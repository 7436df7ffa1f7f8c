import java.math.BigInteger;
import java.util.ArrayList;
import java.util.Arrays;
import java.util.HashMap;
import java.util.HashSet;
import java.util.List;
import java.util.Map;
import java.util.Set;
import java.util.regex.Matcher;
import java.util.regex.Pattern;

/**
 * The document's words done a second time, plainly and slowly, by other means
 * than CookHands: trials of all HANDS, searches forward, regular expressions,
 * BigIntegers. RandomRunsTest holds the two against each other.
 */
final class Model {
    private static final int NONE = -1, BAD = -2, NO = -3, FULL = -4, NOBODY = 99;

    private static final class Place implements Cloneable {
        List<int[]> cooks = new ArrayList<>();
        List<List<int[]>> dishes = new ArrayList<>();
        List<Integer> past = new ArrayList<>();
        int knives = 2;
        boolean strike;

        Place copy() {
            Place p = new Place();
            p.cooks.addAll(cooks);
            for (List<int[]> steps : dishes) {
                p.dishes.add(new ArrayList<>(steps));
            }
            p.past.addAll(past);
            p.knives = knives;
            p.strike = strike;
            return p;
        }

        /** Of each DISH: STEPS done, minutes of the next one. */
        List<Integer> progress() {
            List<Integer> at = start();
            for (int set : past) {
                at = after(at, set);
            }
            return at;
        }

        List<Integer> start() {
            List<Integer> at = new ArrayList<>();
            for (int i = 0; i < 2 * dishes.size(); i++) {
                at.add(0);
            }
            return at;
        }

        List<Integer> after(List<Integer> at, int set) {
            List<Integer> next = new ArrayList<>(at);
            for (int d = 0; d < dishes.size(); d++) {
                if ((set & 1 << d) != 0) {
                    int minutes = next.get(2 * d + 1) + 1;
                    boolean over = minutes == dishes.get(d).get(next.get(2 * d))[3];
                    next.set(2 * d + 1, over ? 0 : minutes);
                    next.set(2 * d, next.get(2 * d) + (over ? 1 : 0));
                }
            }
            return next;
        }

        boolean done(List<Integer> at, int d) {
            return at.get(2 * d) == dishes.get(d).size();
        }
    }

    private Place place = new Place();
    private final Place[] images = new Place[2];
    private final List<Integer> text = new ArrayList<>();
    private BigInteger above = BigInteger.ZERO, below = BigInteger.ONE;
    private final int[] refused = new int[3];

    /** The crew that the answer now sought has: all of them, some, or one hand more. */
    private boolean struck;
    private int away;
    private int[] nobodysHand;
    private final Map<List<Integer>, Boolean> known = new HashMap<>();

    private void crew(boolean strike, int awayCook, int[] hand) {
        struck = strike;
        away = awayCook;
        nobodysHand = hand;
        known.clear();
    }

    private void usualCrew() {
        crew(place.strike, -1, null);
    }

    private static int[] handsOfKind(int kind) {
        return kind == 1 ? new int[] {0, 1} : kind == 3 || kind == 5 ? new int[] {1, 1} : new int[] {1, 0};
    }

    private int refuse(int reason, int answer) {
        refused[-2 - reason]++;
        return answer;
    }

    // ---- a kitchen

    private static int addCook(Place p, int kind, int wage) {
        if (kind < 0 || kind > 5 || wage < 0 || wage > 9) {
            return BAD;
        }
        if (p.cooks.size() == 6) {
            return FULL;
        }
        p.past.clear();
        p.cooks.add(new int[] {kind, wage});
        return p.cooks.size() - 1;
    }

    private static int addDish(Place p) {
        if (p.dishes.size() == 3) {
            return FULL;
        }
        p.past.clear();
        p.dishes.add(new ArrayList<>());
        return p.dishes.size() - 1;
    }

    private static int addStep(Place p, int[] n) {
        if (n[0] < 0 || n[0] >= p.dishes.size() || n[1] < 0 || n[1] > 3 || n[2] < 0 || n[2] > 3 || n[1] + n[2] == 0
            || n[3] < 0 || n[3] > n[1] + n[2] || n[4] < 1 || n[4] > 5) {
            return BAD;
        }
        List<int[]> steps = p.dishes.get(n[0]);
        if (steps.size() == 3) {
            return FULL;
        }
        p.past.clear();
        steps.add(new int[] {n[1], n[2], n[3], n[4]});
        return steps.size() - 1;
    }

    private static int setKnives(Place p, int n) {
        if (n < 0 || n > 6) {
            return BAD;
        }
        p.past.clear();
        int had = p.knives;
        p.knives = n;
        return had;
    }

    private static int setStrike(Place p, boolean is) {
        if (p.strike == is) {
            return NO;
        }
        p.past.clear();
        p.strike = is;
        return 1;
    }

    private int counted(int answer) {
        return answer <= BAD && answer >= FULL ? refuse(answer, answer) : answer;
    }

    int cook(int kind, int wage) {
        return counted(addCook(place, kind, wage));
    }

    int dish() {
        return counted(addDish(place));
    }

    int step(int dish, int right, int left, int knives, int minutes) {
        return counted(addStep(place, new int[] {dish, right, left, knives, minutes}));
    }

    int knives(int n) {
        return counted(setKnives(place, n));
    }

    int strike(boolean is) {
        return counted(setStrike(place, is));
    }

    int hands(int cook, int what) {
        if (cook < 0 || cook >= place.cooks.size() || what != 0 && what != 1) {
            return refuse(BAD, BAD);
        }
        int kind = place.cooks.get(cook)[0];
        return kind == 4 && place.strike ? 0 : handsOfKind(kind)[what];
    }

    int type(long v, int n) {
        if (n < 1 || n > 8) {
            return refuse(BAD, BAD);
        }
        if (text.size() + n > 200) {
            return refuse(FULL, FULL);
        }
        for (byte b : Arrays.copyOfRange(BigInteger.valueOf(v).add(BigInteger.ONE.shiftLeft(72)).toByteArray(), 10 - n, 10)) {
            text.add(b & 255);
        }
        return text.size();
    }

    int clear() {
        int had = text.size();
        text.clear();
        return had;
    }

    int read() {
        StringBuilder card = new StringBuilder();
        for (int b : text) {
            card.append((char) b);
        }
        String forms = " cook=nn; dish=; step=nnnnn; knives=n; strike=;";
        Matcher token = Pattern.compile("[a-z]+|[0-9]+|[^ ]").matcher(card);
        List<List<String>> items = new ArrayList<>();
        String rest = "";
        while (token.find()) {
            String t = token.group();
            if (rest.isEmpty()) {
                int at = forms.indexOf(" " + t + "=");
                if (at < 0) {
                    return -10 - token.start();
                }
                rest = forms.substring(at + t.length() + 2, forms.indexOf(';', at) + 1);
                items.add(new ArrayList<>());
            } else if (rest.startsWith("n") ? !t.matches("[0-9]{1,2}") : !t.equals(";")) {
                return -10 - token.start();
            } else {
                rest = rest.substring(1);
            }
            items.get(items.size() - 1).add(t);
        }
        if (!rest.isEmpty()) {
            return -10 - card.length();
        }
        Place p = new Place();
        for (int i = 0; i < items.size(); i++) {
            if (tell(p, items.get(i)) <= BAD) {
                return -1000 - i;
            }
        }
        place = p;
        return items.size();
    }

    private static int tell(Place p, List<String> item) {
        int[] n = new int[item.size() - 2];
        for (int i = 0; i < n.length; i++) {
            n[i] = Integer.parseInt(item.get(i + 1));
        }
        switch (item.get(0)) {
            case "cook": return addCook(p, n[0], n[1]);
            case "dish": return addDish(p);
            case "step": return addStep(p, n);
            case "knives": return setKnives(p, n[0]);
            default: return setStrike(p, true);
        }
    }

    // ---- who can do what

    /** {side, has a KNIFE, DISH} of each hand that these DISHES need in this state. */
    private List<int[]> needs(List<Integer> at, int set) {
        List<int[]> slots = new ArrayList<>();
        for (int d = 0; d < place.dishes.size(); d++) {
            if ((set & 1 << d) != 0) {
                int[] step = place.dishes.get(d).get(at.get(2 * d));
                for (int h = 0; h < step[0] + step[1]; h++) {
                    slots.add(new int[] {h < step[0] ? 0 : 1, h < step[2] ? 1 : 0, d});
                }
            }
        }
        return slots;
    }

    /** Tries all COOKS for all hands in order; the first row that can be, or null. */
    private int[] firstRow(List<int[]> slots) {
        int knives = 0;
        for (int[] slot : slots) {
            knives += slot[1];
        }
        int[] row = new int[slots.size()];
        boolean possible = knives <= place.knives && slots.size() <= 13 && tryHands(slots, 0, row, new HashSet<>(), new HashSet<>());
        return possible ? row : null;
    }

    private boolean tryHands(List<int[]> slots, int i, int[] row, Set<Integer> used, Set<List<Object>> failed) {
        if (i == slots.size()) {
            return true;
        }
        List<Object> here = List.of(i, new HashSet<>(used));
        if (failed.contains(here)) {
            return false;
        }
        int[] slot = slots.get(i);
        for (int c = 0; c <= place.cooks.size(); c++) {
            int hand = handFor(c, slot);
            if (hand >= 0 && used.add(hand)) {
                row[i] = c == place.cooks.size() ? NOBODY : c;
                if (tryHands(slots, i + 1, row, used, failed)) {
                    return true;
                }
                used.remove(hand);
            }
        }
        failed.add(here);
        return false;
    }

    /** A number for the hand that this COOK has for it (behind the COOKS: nobody's hand), or -1. */
    private int handFor(int cook, int[] slot) {
        if (cook == place.cooks.size()) {
            return nobodysHand != null && nobodysHand[0] == slot[0] && slot[1] == 0 ? 2 * cook : -1;
        }
        int kind = place.cooks.get(cook)[0];
        if (cook == away || kind == 4 && struck || slot[1] == 1 && (kind == 2 || kind == 5)) {
            return -1;
        }
        return handsOfKind(kind)[slot[0]] == 0 ? -1 : kind == 5 ? 2 * cook : 2 * cook + slot[0];
    }

    private boolean together(List<Integer> at, int set) {
        List<Integer> key = new ArrayList<>();
        for (int d = 0; d < place.dishes.size(); d++) {
            key.add((set & 1 << d) != 0 ? at.get(2 * d) : -1);
        }
        return known.computeIfAbsent(key, k -> firstRow(needs(at, set)) != null);
    }

    /** The sets of DISHES, of those wanted, that may go on in this state. */
    private List<Integer> sets(List<Integer> at, int wanted) {
        List<Integer> sets = new ArrayList<>();
        for (int set = 0; set < 1 << place.dishes.size(); set++) {
            boolean fit = (set & ~wanted) == 0;
            for (int d = 0; d < place.dishes.size(); d++) {
                boolean in = (set & 1 << d) != 0;
                fit &= !(in && place.done(at, d));
                fit &= in || at.get(2 * d + 1) == 0 || (wanted & 1 << d) == 0;
            }
            if (fit && together(at, set)) {
                sets.add(set);
            }
        }
        return sets;
    }

    // ---- the soonest

    private boolean allDone(List<Integer> at, int wanted) {
        for (int d = 0; d < place.dishes.size(); d++) {
            if ((wanted & 1 << d) != 0 && !place.done(at, d)) {
                return false;
            }
        }
        return true;
    }

    private int all() {
        return (1 << place.dishes.size()) - 1;
    }

    /** Breadth first, forward. */
    private int fewest(List<Integer> from, int wanted) {
        Set<List<Integer>> layer = new HashSet<>();
        layer.add(from);
        for (int minutes = 0; !layer.isEmpty(); minutes++) {
            Set<List<Integer>> next = new HashSet<>();
            for (List<Integer> at : layer) {
                if (allDone(at, wanted)) {
                    return minutes;
                }
                for (int set : sets(at, wanted)) {
                    if (set != 0) {
                        next.add(place.after(at, set));
                    }
                }
            }
            layer = next;
        }
        return NONE;
    }

    private List<Integer> theRow() {
        usualCrew();
        List<Integer> at = place.progress();
        int minutes = fewest(at, all());
        if (minutes == NONE) {
            return null;
        }
        List<Integer> row = new ArrayList<>();
        for (int left = minutes - 1; left >= 0; left--) {
            for (int set : sets(at, all())) {
                if (set != 0 && fewest(place.after(at, set), all()) == left) {
                    row.add(set);
                    at = place.after(at, set);
                    break;
                }
            }
        }
        return row;
    }

    int soonest() {
        usualCrew();
        return fewest(place.progress(), all());
    }

    int row(int i) {
        if (i < 0) {
            return refuse(BAD, -10);
        }
        List<Integer> row = theRow();
        return row == null || i >= row.size() ? -5 : row.get(i);
    }

    int whose(int dishes, int j) {
        if (j < 0 || !there(dishes) || anyDone(dishes)) {
            return refuse(BAD, -10);
        }
        usualCrew();
        int[] row = firstRow(needs(place.progress(), dishes));
        return row == null ? NONE : j < row.length ? row[j] : -5;
    }

    private boolean there(int dishes) {
        return dishes >= 0 && dishes <= all();
    }

    private boolean anyDone(int dishes) {
        List<Integer> at = place.progress();
        for (int d = 0; d < place.dishes.size(); d++) {
            if ((dishes & 1 << d) != 0 && place.done(at, d)) {
                return true;
            }
        }
        return false;
    }

    int cold(int nine) {
        if (nine < 0 || nine > 60) {
            return refuse(BAD, BAD);
        }
        usualCrew();
        List<Integer> at = place.progress();
        int sum = 0;
        for (int d = 0; d < place.dishes.size(); d++) {
            sum += place.done(at, d) ? nine : 0;
        }
        int rest = coldFrom(at, nine, new HashMap<>());
        return rest == Integer.MAX_VALUE ? NONE : sum + rest;
    }

    /** The least sum of waits of those DISHES that end from now on, with so many minutes left. */
    private int coldFrom(List<Integer> at, int left, Map<List<Object>, Integer> sums) {
        if (allDone(at, all())) {
            return 0;
        }
        if (left == 0) {
            return Integer.MAX_VALUE;
        }
        List<Object> key = List.of(at, left);
        if (!sums.containsKey(key)) {
            int best = Integer.MAX_VALUE;
            for (int set : sets(at, all())) {
                List<Integer> next = place.after(at, set);
                int ended = 0;
                for (int d = 0; d < place.dishes.size(); d++) {
                    ended += place.done(next, d) && !place.done(at, d) ? left - 1 : 0;
                }
                int rest = coldFrom(next, left - 1, sums);
                best = rest == Integer.MAX_VALUE ? best : Math.min(best, rest + ended);
            }
            sums.put(key, best);
        }
        return sums.get(key);
    }

    int help(int what) {
        if (what != 0 && what != 1) {
            return refuse(BAD, -10);
        }
        int without = soonest();
        crew(place.strike, -1, new int[] {what});
        int with = fewest(place.progress(), all());
        return with == NONE ? NONE : without == NONE ? 1000 - with : without - with;
    }

    int spared() {
        int usual = soonest();
        int bits = 0;
        for (int c = 0; c < place.cooks.size(); c++) {
            crew(place.strike, c, null);
            bits |= fewest(place.progress(), all()) == usual ? 1 << c : 0;
        }
        return usual == NONE ? NONE : bits;
    }

    int strikeCost() {
        crew(true, -1, null);
        int with = fewest(place.progress(), all());
        crew(false, -1, null);
        int without = fewest(place.progress(), all());
        return with == NONE || without == NONE ? NONE : with - without;
    }

    int menu(int m) {
        if (m < 0 || m > 60) {
            return refuse(BAD, BAD);
        }
        usualCrew();
        for (int size = place.dishes.size(); size > 0; size--) {
            for (int set = 0; set <= all(); set++) {
                int minutes = Integer.bitCount(set) == size ? fewest(place.progress(), set) : NONE;
                if (minutes != NONE && minutes <= m) {
                    return set;
                }
            }
        }
        return 0;
    }

    // ---- burns, wages

    /** {minute, DISH, bits of COOKS} for each DISH of each minute of ROW. */
    private List<int[]> work() {
        List<Integer> row = theRow();
        if (row == null) {
            return null;
        }
        List<int[]> work = new ArrayList<>();
        List<Integer> at = place.progress();
        for (int m = 0; m < row.size(); m++) {
            List<int[]> slots = needs(at, row.get(m));
            int[] hands = firstRow(slots);
            for (int d = 0; d < place.dishes.size(); d++) {
                int cooks = 0;
                for (int h = 0; h < hands.length; h++) {
                    cooks |= slots.get(h)[2] == d ? 1 << hands[h] : 0;
                }
                if (cooks != 0) {
                    work.add(new int[] {m, d, cooks});
                }
            }
            at = place.after(at, row.get(m));
        }
        return work;
    }

    private List<int[]> sharedWork() {
        List<int[]> work = work();
        if (work != null) {
            work.removeIf(w -> Integer.bitCount(w[2]) < 2);
        }
        return work;
    }

    private void setFraction(BigInteger a, BigInteger b) {
        above = a.divide(a.gcd(b));
        below = b.divide(a.gcd(b));
    }

    int burns(int w) {
        if (w < 0 || w > 20) {
            return refuse(BAD, BAD);
        }
        List<int[]> work = sharedWork();
        if (work == null) {
            return refuse(NO, NO);
        }
        setFraction(BigInteger.valueOf(20 - w).pow(work.size()), BigInteger.valueOf(20).pow(work.size()));
        return 1;
    }

    int drawn(int w, int seed) {
        if (w < 0 || w > 20 || seed < 0 || seed > 999999) {
            return refuse(BAD, -10);
        }
        List<int[]> work = sharedWork();
        if (work == null) {
            return refuse(NO, -20);
        }
        BigInteger x = BigInteger.valueOf(seed);
        for (int[] one : work) {
            x = x.multiply(BigInteger.valueOf(1103515245)).add(BigInteger.valueOf(12345)).mod(BigInteger.ONE.shiftLeft(31));
            if (x.shiftRight(16).intValueExact() % 20 < w) {
                return 10 * one[0] + one[1];
            }
        }
        return NONE;
    }

    int letGo(int cook) {
        if (cook < 0 || cook >= place.cooks.size()) {
            return refuse(BAD, BAD);
        }
        List<int[]> work = sharedWork();
        if (work == null) {
            return refuse(NO, NO);
        }
        long his = work.stream().filter(w -> (w[2] & 1 << cook) != 0).count();
        setFraction(BigInteger.valueOf(his), BigInteger.valueOf(Math.max(1, work.size())));
        return 1;
    }

    int wages() {
        List<int[]> work = work();
        if (work == null) {
            return NONE;
        }
        int sum = 0;
        Set<Integer> paid = new HashSet<>();
        for (int[] one : work) {
            for (int c = 0; c < place.cooks.size(); c++) {
                if ((one[2] & 1 << c) != 0 && paid.add(100 * one[0] + c)) {
                    sum += place.cooks.get(c)[1];
                }
            }
        }
        return sum;
    }

    // ---- cooking

    int cooked(int dishes) {
        if (dishes == 0 || !there(dishes)) {
            return refuse(BAD, BAD);
        }
        usualCrew();
        if (anyDone(dishes) || !sets(place.progress(), all()).contains(dishes)) {
            return refuse(NO, NO);
        }
        place.past.add(dishes);
        int done = 0;
        for (int d = 0; d < place.dishes.size(); d++) {
            done += place.done(place.progress(), d) ? 1 : 0;
        }
        return done;
    }

    int undo() {
        if (place.past.isEmpty()) {
            return refuse(NO, NO);
        }
        place.past.remove(place.past.size() - 1);
        return 1;
    }

    int state(int dish, int what) {
        if (dish < 0 || dish >= place.dishes.size() || what != 0 && what != 1) {
            return refuse(BAD, BAD);
        }
        return place.progress().get(2 * dish + what);
    }

    // ---- what there is

    private static List<Integer> limbs(BigInteger n) {
        List<Integer> limbs = new ArrayList<>();
        for (BigInteger rest = n; rest.signum() > 0; rest = rest.shiftRight(30)) {
            limbs.add(rest.mod(BigInteger.ONE.shiftLeft(30)).intValueExact());
        }
        return limbs;
    }

    private int[] signs() {
        return new int[] {above.signum(), limbs(above).size(), limbs(below).size()};
    }

    private int[] counts() {
        return new int[] {place.cooks.size(), place.dishes.size(), place.knives, place.past.size(), text.size()};
    }

    int sign(int what) {
        return what < 0 || what > 2 ? refuse(BAD, BAD) : signs()[what];
    }

    int limb(int which, int i) {
        if (which != 0 && which != 1 || i < 0) {
            return refuse(BAD, BAD);
        }
        List<Integer> limbs = limbs(which == 0 ? above : below);
        return i < limbs.size() ? limbs.get(i) : NONE;
    }

    int image(int i) {
        if (i != 0 && i != 1) {
            return refuse(BAD, BAD);
        }
        images[i] = place.copy();
        return 1;
    }

    int from(int i) {
        if (i != 0 && i != 1) {
            return refuse(BAD, BAD);
        }
        if (images[i] == null) {
            return refuse(NO, NO);
        }
        place = images[i].copy();
        return 1;
    }

    int status(int what) {
        return what < 0 || what > 2 ? refuse(BAD, NONE) : refused[what];
    }

    int count(int what) {
        return what < 0 || what > 4 ? refuse(BAD, BAD) : counts()[what];
    }

    long digest() {
        List<Integer> values = new ArrayList<>();
        for (int v : counts()) {
            values.add(v);
        }
        values.add(place.strike ? 1 : 0);
        for (int[] cook : place.cooks) {
            values.add(cook[0]);
            values.add(cook[1]);
        }
        for (List<int[]> steps : place.dishes) {
            values.add(steps.size());
            for (int[] step : steps) {
                for (int v : step) {
                    values.add(v);
                }
            }
        }
        values.addAll(place.progress());
        for (int v : signs()) {
            values.add(v);
        }
        values.addAll(limbs(above));
        values.addAll(limbs(below));
        long h = 709;
        for (int v : values) {
            h = 31 * h + v;
        }
        return h;
    }
}
