import java.util.Arrays;

/**
 * 3 COOKING: UNDO, THE TEXT, THE CARD, IMAGES, STATUS, THE FRACTION, the digest.
 * Each sentence of the document there that names a boundary case, by its own
 * words, with the answers due at the boundary and on either side of it.
 */
public final class CookingBoundariesTest extends Checks {
    public static void main(String[] args) {
        cookingAndUndo();
        theText();
        theCard();
        faults();
        refusedItems();
        imagesAndStatus();
        theFraction();
        digests();
        firstReasons();
        end("the boundaries of cooking, cards, images");
    }

    private static void cookingAndUndo() {
        of("how many DISHES are done then in all (such without STEPS, too)");
        CookHands x = withDish(withDish(withDish(kitchen(COOK)), 1, 0, 0, 2));
        due(2, x.cooked(2));
        due(3, x.cooked(2));
        of("BAD: none, bits of DISHES that are not there");
        CookHands y = withDish(withDish(kitchen(COOK, COOK), 1, 0, 0, 2), 1, 0, 0, 2);
        for (int bits : new int[] {0, 4, 5, 7, 8, -1, -4, MIN, MIN + 1, MAX}) {
            refused(y, BAD, k -> k.cooked(bits));
        }
        refused(new CookHands(), BAD, k -> k.cooked(0));
        refused(new CookHands(), BAD, k -> k.cooked(1));
        of("NO: one is done, one that must go on is not among them, they can not go on together, no COOKS for it");
        refused(x, NO, k -> k.cooked(2));
        refused(x, NO, k -> k.cooked(1));
        refused(x, NO, k -> k.cooked(7));
        refused(x, BAD, k -> k.cooked(8));
        due(0, y.cooked(2));
        refused(y, NO, k -> k.cooked(1));
        refused(withDish(kitchen(LEFTY), 1, 0, 0, 1), NO, k -> k.cooked(1));
        refused(withDish(kitchen(COOK, COOK, COOK), 3, 0, 3, 1), NO, k -> k.cooked(1));
        due(2, x.count(3));
        due(1, y.count(3));
        cookedTillTheEnd();
        allUndone();
        toldAnew();
        states();
    }

    private static void cookedTillTheEnd() {
        of("COOKING, minute by minute");
        CookHands x = longest(COOK, COOK, COOK);
        for (int minute = 1; minute <= 15; minute++) {
            due(minute == 15 ? 3 : 0, x.cooked(7));
            due(minute, x.count(3));
        }
        refused(x, NO, k -> k.cooked(7));
        refused(x, NO, k -> k.cooked(1));
        CookHands y = withDish(kitchen(STRIKER, COOK), 1, 0, 0, 2);
        due(0, y.cooked(1));
        due(1, y.strike(true));
        due(0, y.count(3));
        due(0, y.cooked(1));
        due(1, y.cooked(1));
    }

    private static void allUndone() {
        of("UNDO: as ahead of the last minute (all may be undone; ... NO: none may be");
        CookHands x = longest(COOK);
        long[] digests = new long[46];
        for (int i = 0; i < 45; i++) {
            digests[i] = x.digest();
            due((i + 1) / 15, x.cooked(1 << i / 15));
        }
        due(45, x.count(3));
        for (int i = 44; i >= 0; i--) {
            due(1, x.undo());
            due(digests[i], x.digest());
            due(45 - i, x.soonest());
            due(i, x.count(3));
        }
        refused(x, NO, k -> k.undo());
        refused(new CookHands(), NO, k -> k.undo());
        CookHands y = withDish(withDish(kitchen(COOK, COOK), 1, 0, 0, 1, 1, 0, 0, 2), 1, 0, 0, 3);
        y.cooked(3);
        y.cooked(2);
        y.undo();
        due(1, y.state(0, 0));
        due(0, y.state(0, 1));
        due(1, y.state(1, 1));
        due(0, y.cooked(3));
        due(1, y.state(0, 1));
        due(2, y.state(1, 1));
        y.undo();
        y.undo();
        refused(y, NO, k -> k.undo());
    }

    private static void anewDue(Call told, long answer, int soonest) {
        CookHands x = begun();
        due(1, x.soonest());
        due(answer, told.on(x));
        due(0, x.count(3));
        due(soonest, x.soonest());
        due(0, x.state(0, 0));
        due(0, x.state(0, 1));
        refused(x, NO, k -> k.undo());
    }

    private static void toldAnew() {
        of("a COOK, DISH, STEP, STRIKE, KNIVES that are told begin anew: nothing is cooked");
        CookHands all = longest(COOK, COOK, COOK);
        all.cooked(7);
        due(3, all.cook(COOK, 0));
        for (int i = 0; i < 3; i++) {
            due(0, all.state(i, 1));
        }
        anewDue(k -> k.cook(0, 0), 1, 3);
        anewDue(k -> k.dish(), 1, 3);
        anewDue(k -> k.step(0, 1, 0, 0, 1), 1, 4);
        anewDue(k -> k.strike(true), 1, 3);
        anewDue(k -> k.knives(2), 2, 3);
        anewDue(k -> k.knives(6), 2, 3);
        of("... but a refused one changes nothing");
        CookHands x = begun();
        refused(x, BAD, k -> k.cook(0, 10));
        refused(x, BAD, k -> k.step(0, 0, 0, 0, 1));
        refused(x, NO, k -> k.strike(false));
        refused(x, BAD, k -> k.knives(7));
        due(2, x.count(3));
        due(2, x.state(0, 1));
        CookHands full = longest(COOK, COOK, COOK, COOK, COOK, COOK);
        full.cooked(7);
        refused(full, FULL, k -> k.cook(0, 0));
        refused(full, FULL, k -> k.dish());
        refused(full, FULL, k -> k.step(2, 1, 0, 0, 1));
        due(1, full.count(3));
        due(1, full.undo());
    }

    private static void states() {
        of("STEPS done (0), minutes of the next one done (1). BAD");
        CookHands x = withDish(withDish(kitchen(COOK), 1, 0, 0, 5, 1, 0, 0, 1, 1, 0, 0, 2));
        int[] steps = {0, 0, 0, 0, 0, 1, 2, 2, 3};
        int[] minutes = {0, 1, 2, 3, 4, 0, 0, 1, 0};
        for (int i = 0; i < 9; i++) {
            int at = i;
            asked(x, steps[at], k -> k.state(0, 0));
            asked(x, minutes[at], k -> k.state(0, 1));
            asked(x, 0, k -> k.state(1, 0));
            asked(x, 0, k -> k.state(1, 1));
            x.cooked(1);
        }
        for (int wrong : new int[] {-1, 2, 3, MIN, MAX}) {
            refused(x, BAD, k -> k.state(wrong, 0));
            refused(x, BAD, k -> k.state(0, wrong));
        }
        refused(new CookHands(), BAD, k -> k.state(0, 0));
    }

    private static void theText() {
        of("The lowest n (1 .. 8) bytes of v, the highest of them first, come to THE TEXT: how many it has");
        CookHands x = new CookHands();
        for (int n : new int[] {0, -1, 9, 10, MIN, MAX}) {
            refused(x, BAD, k -> k.type(-1, n));
        }
        int has = 0;
        for (int n = 1; n <= 8; n++) {
            has += n;
            due(has, x.type(-1, n));
            due(has, x.count(4));
        }
        for (int n = 1; n <= 8; n++) {
            CookHands y = new CookHands();
            String text = "  dish; ".substring(8 - n);
            long v = 0x6b6b6b6b6b6b6b6bL;
            for (int i = 0; i < n; i++) {
                v = v << 8 | text.charAt(i);
            }
            due(n, y.type(v, n));
            due(n < 2 ? 0 : n < 6 ? -10 : 1, y.read());
        }
        for (int left = 0; left <= 8; left++) {
            textFull(left);
        }
    }

    private static void textFull(int left) {
        of("FULL");
        CookHands x = new CookHands();
        due(200 - left, typeByEight(x, " ".repeat(200 - left)));
        for (int n = left + 1; n <= 8; n++) {
            int many = n;
            refused(x, FULL, k -> k.type(0x2020202020202020L, many));
        }
        if (left > 0) {
            due(200, x.type(0x2020202020202020L, left));
        }
        due(0, x.read());
        refused(x, FULL, k -> k.type(0, 1));
        refused(x, BAD, k -> k.type(0, 0));
        refused(x, BAD, k -> k.type(0, 9));
        of("THE TEXT is empty: how many it had");
        due(200, x.clear());
        due(0, x.clear());
        due(8, x.type(0, 8));
    }

    private static void theCard() {
        of("THE CARD is a TEXT (200 bytes at most) of ITEMS, each ended by ;");
        CookHands x = new CookHands();
        String longCard = "dish;dish;dish;" + "knives5;".repeat(23) + " ";
        due(200, longCard.length());
        due(26, read(x, longCard));
        due(3, x.count(1));
        due(5, x.count(2));
        due(1, read(" ".repeat(195) + "dish;"));
        due(1, read("dish;" + " ".repeat(195)));
        due(-210, read("dish" + " ".repeat(196)));
        due(-209, read(" ".repeat(199) + ";"));
        of("figures (1 or 2 are one number)");
        due(6, read(x, "cook 00 09;dish;step 00 01 00 01 05;knives 06;knives 00;knives 1;"));
        due(1, x.count(2));
        due(5, x.soonest());
        due(45, x.wages());
        due(-1000, read("cook 0 10;"));
        due(-1000, read("cook 10 0;"));
        due(-1000, read("knives 99;"));
        of("any number of blanks (32) ahead of, between, behind them (needed only between two words, two numbers)");
        due(4, read(x, "cook0 0;dish;step0 1 0 0 1;strike;"));
        due(4, read(x, "   cook   0   0   ;   dish   ;   step   0   1   0   0   1   ;   strike   ;   "));
        due(1, x.soonest());
        due(-17, read("cook 00;"));
        due(-10, read("dishdish;"));
        of("(one that is empty or has blanks alone has none)");
        for (int blanks : new int[] {0, 1, 8, 199, 200}) {
            CookHands y = begun();
            y.knives(5);
            y.strike(true);
            due(0, read(y, " ".repeat(blanks)));
            due(digestOf(0, 0, 2, 0, blanks, 0, 0, 0, 1, 1), y.digest());
            due(0, y.soonest());
        }
        cardTellsAnew();
    }

    private static void cardTellsAnew() {
        of("told anew by these alone, in their order (KNIVES 2, no STRIKE, nothing cooked ahead of them; THE TEXT, IMAGES, STATUS stay)");
        CookHands x = begun();
        x.image(1);
        x.knives(5);
        x.strike(true);
        x.cooked(1);
        x.cook(9, 9);
        x.letGo(0);
        due(2, read(x, "strike;cook 4 7;"));
        due(digestOf(1, 0, 2, 0, 16, 1, 4, 7, 0, 0, 1, 1), x.digest());
        refused(x, NO, k -> k.undo());
        statusDue(x, 1, 1, 0);
        due(2, x.read());
        due(2, read(x, "strike;knives 3;"));
        due(1, x.from(1));
        due(2, x.count(3));
        due(16, x.count(4));
        due(2, x.read());
        due(3, x.count(2));
        refused(x, NO, k -> k.from(0));
        due(2, read(x, "dish;step 0 1 0 0 1;"));
        due(0, x.count(0));
        due(NONE, x.soonest());
        due(0, x.cook(0, 1));
        due(1, x.soonest());
        of("(KNIVES 2, no STRIKE");
        due(2, read(x, "knives 5;strike;"));
        due(5, x.count(2));
        due(1, read(x, "cook 4 0;"));
        due(2, x.count(2));
        due(1, x.hands(0, 0));
        refused(x, NO, k -> k.strike(false));
        due(4, read(x, "dish;dish;dish;step 2 1 0 0 1;"));
        due(NONE, x.soonest());
        due(3, read(x, "dish;dish;dish;"));
        due(0, x.soonest());
        due(0, x.step(2, 1, 0, 0, 1));
        due(3, read(x, "cook 0 0;dish;step 0 1 0 0 1;"));
        due(1, x.soonest());
        due(3, read(x, "cook 1 0;dish;step 0 1 0 0 1;"));
        due(NONE, x.soonest());
        due(3, read(x, "cook 1 0;dish;step 0 0 1 0 1;"));
        due(1, x.soonest());
        of("... KNIVES and STRIKE that are told begin anew in their order, COOKS after DISHES too");
        due(3, read(x, "dish;cook 0 1;step 0 1 0 1 1;"));
        due(1, x.soonest());
        due(-1000, read(x, "step 0 1 0 1 1;dish;cook 0 1;"));
    }

    private static void faultDue(int place, String card) {
        CookHands x = begun();
        typeByEight(x, card);
        asked(x, -10 - place, k -> k.read());
        due(2, x.count(3));
        due(1, x.undo());
    }

    private static void faults() {
        of("a word that is none");
        for (String word : new String[] {"c", "coo", "cooks", "xcook", "dis", "dishs", "ste", "steps",
            "knive", "knife", "knivess", "strik", "strikes", "cookdish", "a", "z"}) {
            faultDue(0, word + " 0 0;");
            faultDue(7, "  dish;" + word);
        }
        for (String word : new String[] {"cook", "dish", "step", "knives", "strike"}) {
            for (int i = 0; i < word.length(); i++) {
                faultDue(0, word.substring(0, i) + "z" + word.substring(i + 1) + " 0 1 0 0 1;");
            }
        }
        of("a byte that begins none");
        for (int b = 0; b < 256; b++) {
            char sign = (char) b;
            boolean isLetter = sign >= 'a' && sign <= 'z';
            if (sign != ' ' && sign != ';') {
                faultDue(isLetter ? 0 : 4, "dish" + sign + ";");
                faultDue(5, "dish " + sign + ";");
                faultDue(1, " " + sign);
            }
            if (sign != ' ' && (sign < '0' || sign > '9')) {
                faultDue(7, "knives " + sign + ";");
                faultDue(sign == ';' ? 9 : 8, "knives 6" + sign + "x");
            }
        }
        of("a run of three figures or more (at its first one)");
        faultDue(7, "knives 006;");
        faultDue(7, "knives 1234567890;");
        faultDue(6, "knives100;");
        faultDue(7, "cook 0 000;");
        faultDue(4, "cook999 0;");
        faultDue(15, "step 0 1 0 0 1 100;");
        faultDue(0, "100;");
        faultDue(5, "dish 100;");
        numbersMissing();
        endsTooEarly();
    }

    private static void numbersMissing() {
        of("the place of the first byte of the first TOKEN that can not stand there");
        faultDue(0, ";");
        faultDue(0, "0;");
        faultDue(5, "dish;;");
        faultDue(5, "dish 0;");
        faultDue(7, "strike 0;");
        faultDue(5, "dish dish;");
        faultDue(6, "knives;");
        faultDue(9, "knives 3 3;");
        faultDue(9, "knives 3 dish;");
        faultDue(4, "cook;");
        faultDue(6, "cook 0;");
        faultDue(7, "cook 0 ;");
        faultDue(9, "cook 0 0 0;");
        faultDue(5, "cook cook 0 0;");
        faultDue(4, "step;");
        faultDue(12, "step 0 1 0 0;");
        faultDue(15, "step 0 1 0 0 1 1;");
        faultDue(5, "cook -1 0;");
        faultDue(8, "knives 1.;");
        faultDue(9, "cook 9 9;x;cook 9 9;");
    }

    private static void endsTooEarly() {
        of("the TEXT's length, if it ends too early");
        String[] whole = {"cook 0 0;", "dish;", "step 0 1 0 0 1;", "knives 3;", "strike;"};
        for (String item : whole) {
            int word = item.indexOf(' ') < 0 ? item.length() - 1 : item.indexOf(' ');
            for (int length = 1; length < item.length(); length++) {
                faultDue(length < word ? 0 : length, item.substring(0, length));
                faultDue(length < word ? 1 : length + 5, " " + item.substring(0, length) + "    ");
                faultDue(5 + (length < word ? 0 : length), "dish;" + item.substring(0, length));
            }
        }
        CookHands x = new CookHands();
        for (String item : whole) {
            x.clear();
            typeByEight(x, item);
            x.clear();
            typeByEight(x, item.substring(0, item.length() - 1));
            due(-10 - (item.length() - 1), x.read());
        }
        faultDue(200, "dish;".repeat(39) + " dish");
        faultDue(195, "dish;".repeat(39) + "dis;");
        faultDue(199, "dish;".repeat(39) + "dish0");
        faultDue(200, " ".repeat(196) + "dish");
        faultDue(200, "knives 1" + " ".repeat(192));
    }

    private static void itemRefused(int item, String card) {
        CookHands x = begun();
        x.image(0);
        x.burns(0);
        typeByEight(x, card);
        asked(x, -1000 - item, k -> k.read());
        due(2, x.count(3));
        due(1, x.cooked(1));
        due(1, x.undo());
        due(1, x.undo());
        due(1, x.undo());
        refused(x, NO, k -> k.undo());
        due(1, x.from(0));
        due(2, x.count(3));
    }

    private static void refusedItems() {
        of("the first ITEM (0 on) that is refused (as its call is): nothing changes");
        itemRefused(0, "cook 6 0;");
        itemRefused(0, "cook 0 10;");
        itemRefused(0, "knives 7;");
        itemRefused(0, "step 0 1 0 0 1;");
        itemRefused(1, "strike;strike;");
        itemRefused(2, "dish;dish;step 2 1 0 0 1;dish;");
        itemRefused(1, "dish;step 0 0 0 0 1;");
        itemRefused(1, "dish;step 0 4 0 0 1;");
        itemRefused(1, "dish;step 0 0 4 0 1;");
        itemRefused(1, "dish;step 0 1 1 3 1;");
        itemRefused(1, "dish;step 0 1 0 0 0;");
        itemRefused(1, "dish;step 0 1 0 0 6;");
        itemRefused(3, "dish;".repeat(4));
        itemRefused(6, "cook 0 0;".repeat(7));
        itemRefused(4, "dish;" + "step 0 1 0 0 1;".repeat(4));
        itemRefused(3, "dish;".repeat(40));
        itemRefused(3, "dish;".repeat(32) + "knives1;");
        itemRefused(3, "dish;".repeat(37) + "step0 1 0 0 1;");
        itemRefused(25, "dish;dish;dish;" + "knives5;".repeat(22) + "knives7;");
        itemRefused(1, "cook 0 0;cook 9 9;knives 7;");
        of("... only of A CARD without a FAULT");
        faultDue(9, "cook 9 9;x");
        faultDue(13, "cook 9 9;dish");
    }

    private static void imagesAndStatus() {
        of("An IMAGE is kept: 1. BAD");
        CookHands x = begun();
        for (int i : new int[] {-1, -2, 2, 3, MIN, MAX}) {
            refused(x, BAD, k -> k.image(i));
            refused(x, BAD, k -> k.from(i));
        }
        of("It goes on from an IMAGE: 1. BAD; NO: none was kept");
        refused(x, NO, k -> k.from(0));
        refused(x, NO, k -> k.from(1));
        asked(x, 1, k -> k.image(1));
        refused(x, NO, k -> k.from(0));
        asked(x, 1, k -> k.from(1));
        imagesKeep();
        imagesKeepThePast();
        fullestKitchen();
        imagesAreCopies();
        status();
    }

    private static void imagesKeep() {
        of("IMAGES 0, 1 keep all but them, THE TEXT, THE FRACTION and STATUS; it goes on from one");
        CookHands x = new CookHands();
        x.cook(STRIKER, 3);
        x.cook(COOK, 4);
        x.knives(5);
        x.strike(true);
        withDish(withDish(x, 1, 0, 1, 3, 1, 0, 0, 1), 1, 0, 0, 2);
        x.cooked(1);
        x.cooked(1);
        x.image(0);
        long digest = x.digest();
        x.letGo(1);
        x.burns(0);
        type(x, "dish;");
        x.cooked(1);
        x.cooked(2);
        x.image(1);
        due(1, x.read());
        refused(x, BAD, k -> k.count(5));
        due(1, x.from(0));
        due(5, x.count(4));
        fractionDue(x, 1, 1);
        statusDue(x, 1, 0, 0);
        due(2, x.count(0));
        due(5, x.count(2));
        due(2, x.count(3));
        due(4, x.soonest());
        refused(x, NO, k -> k.strike(true));
        due(2, x.state(0, 1));
        due(1, x.undo());
        due(1, x.undo());
        refused(x, NO, k -> k.undo());
        due(1, x.from(1));
        due(4, x.count(3));
        due(1, x.state(1, 1));
        due(1, x.from(0));
        x.clear();
        due(2, x.cook(COOK, 0));
        due(1, x.from(0));
        due(2, x.count(0));
        due(digest, digestOf(2, 2, 5, 2, 0, 1, 4, 3, 0, 4, 2, 1, 0, 1, 3, 1, 0, 0, 1, 1, 1, 0, 0, 2, 0, 2, 0, 0, 0, 0, 1, 1));
    }

    /** The fullest kitchen: a card of 197 bytes, six COOKS, nine STEPS, no two of a kind beside each other. */
    private static void fullestKitchen() {
        of("... of the fullest kitchen, and such a CARD");
        int[] kinds = {0, 1, 2, 3, 4, 5};
        int[] wages = {9, 8, 7, 6, 5, 4};
        int[] steps = {3, 0, 1, 5, 0, 3, 2, 4, 1, 2, 3, 3, 2, 1, 0, 2, 1, 1, 2, 1, 2, 2, 1, 3, 3, 3, 6, 4, 1, 3, 4, 5, 2, 3, 5, 1};
        StringBuilder card = new StringBuilder("knives6;");
        CookHands x = new CookHands();
        x.knives(6);
        for (int i = 0; i < 6; i++) {
            x.cook(kinds[i], wages[i]);
            card.append("cook").append(kinds[i]).append(' ').append(wages[i]).append(';');
        }
        for (int i = 0; i < 3; i++) {
            withDish(x, Arrays.copyOfRange(steps, 12 * i, 12 * i + 12));
            card.append("dish;");
            for (int k = 12 * i; k < 12 * i + 12; k += 4) {
                card.append("step").append(i).append(' ').append(steps[k]).append(' ').append(steps[k + 1]);
                card.append(' ').append(steps[k + 2]).append(' ').append(steps[k + 3]).append(';');
            }
        }
        int[] told = new int[6 + 12 + 39 + 6 + 4];
        int at = 0;
        for (int v : new int[] {6, 3, 6, 0, 0, 0}) {
            told[at++] = v;
        }
        for (int i = 0; i < 6; i++) {
            told[at++] = kinds[i];
            told[at++] = wages[i];
        }
        for (int i = 0; i < 36; i++) {
            if (i % 12 == 0) {
                told[at++] = 3;
            }
            told[at++] = steps[i];
        }
        told[told.length - 2] = 1;
        told[told.length - 1] = 1;
        due(digestOf(told), x.digest());
        due(1, x.image(1));
        due(0, read(x, ""));
        due(digestOf(0, 0, 2, 0, 0, 0, 0, 0, 1, 1), x.digest());
        due(1, x.from(1));
        due(digestOf(told), x.digest());
        CookHands y = new CookHands();
        due(197, card.length());
        due(19, read(y, card.toString()));
        y.clear();
        due(digestOf(told), y.digest());
        due(x.soonest(), y.soonest());
        due(x.wages(), y.wages());
    }

    private static void imagesKeepThePast() {
        of("... with the minutes cooked, so that they may be undone");
        CookHands x = longest(COOK);
        for (int i = 0; i < 45; i++) {
            x.cooked(1 << i / 15);
        }
        x.image(0);
        for (int i = 0; i < 45; i++) {
            x.undo();
        }
        for (int i = 0; i < 45; i++) {
            x.cooked(4 >> i / 15);
        }
        due(1, x.from(0));
        due(45, x.count(3));
        for (int i = 44; i >= 0; i--) {
            due(1, x.undo());
            for (int dish = 0; dish < 3; dish++) {
                int minutes = Math.max(0, Math.min(15, i - 15 * dish));
                due(minutes / 5, x.state(dish, 0));
                due(minutes % 5, x.state(dish, 1));
            }
        }
        refused(x, NO, k -> k.undo());
    }

    private static void imagesAreCopies() {
        of("... and what comes behind changes no IMAGE");
        CookHands x = withDish(kitchen(COOK), 1, 0, 0, 3);
        x.image(0);
        x.cooked(1);
        x.image(1);
        x.step(0, 0, 1, 0, 1);
        x.cook(LEFTY, 1);
        x.knives(0);
        due(1, x.from(1));
        due(1, x.count(0));
        due(2, x.count(2));
        due(2, x.soonest());
        due(1, x.state(0, 1));
        due(1, x.from(0));
        due(3, x.soonest());
        due(0, x.count(3));
        of("An IMAGE is kept ... the last one");
        x.cook(COOK, 0);
        x.image(1);
        x.from(0);
        due(1, x.count(0));
        due(1, x.from(1));
        due(2, x.count(0));
    }

    private static void status() {
        of("how many calls were refused as BAD, NO, FULL (each answer told so below is such a one; ITEMS are none)");
        CookHands x = withDish(kitchen(COOK), 2, 0, 0, 1);
        x.row(-1);
        x.whose(1, -1);
        x.help(2);
        x.drawn(21, 0);
        statusDue(x, 4, 0, 0);
        x.drawn(1, 0);
        x.letGo(0);
        x.burns(0);
        x.cooked(1);
        x.undo();
        x.from(0);
        x.strike(false);
        statusDue(x, 4, 7, 0);
        for (int i = 0; i < 7; i++) {
            x.cook(0, 0);
            x.dish();
            x.step(0, 1, 0, 0, 1);
        }
        typeByEight(x, "x".repeat(208));
        statusDue(x, 4, 7, 2 + 5 + 5 + 1);
        of("-1: another what (counts as BAD)");
        for (int what : new int[] {-1, 3, 4, MIN, MAX}) {
            refused(x, BAD, NONE, k -> k.status(what));
        }
        of("How many: 0 COOKS, 1 DISHES, 2 KNIVES, 3 minutes cooked, 4 bytes of THE TEXT. BAD");
        int[] counts = {6, 3, 2, 0, 200};
        for (int what = 0; what <= 4; what++) {
            int of = what;
            asked(x, counts[what], k -> k.count(of));
        }
        for (int what : new int[] {-1, 5, 6, MIN, MAX}) {
            refused(x, BAD, k -> k.count(what));
        }
    }

    private static void theFraction() {
        of("THE FRACTION is 0 by 1 at first; lowest terms, below above 0");
        CookHands x = new CookHands();
        asked(x, 0, k -> k.sign(0));
        asked(x, 0, k -> k.sign(1));
        asked(x, 1, k -> k.sign(2));
        of("its sign (0: -1, 0, 1), how many limbs above (1), below (2). BAD");
        for (int what : new int[] {-1, 3, MIN, MAX}) {
            refused(x, BAD, k -> k.sign(what));
        }
        of("Limb i above (0), below (1). NONE: not so many. BAD: i below 0, too");
        asked(x, NONE, k -> k.limb(0, 0));
        asked(x, 1, k -> k.limb(1, 0));
        CookHands y = shared(45);
        y.burns(1);
        for (int which = 0; which <= 1; which++) {
            int side = which;
            for (int i : new int[] {7, 8, 9, 100, MAX}) {
                asked(x, NONE, k -> k.limb(side, i));
                asked(y, NONE, k -> k.limb(side, i));
            }
            for (int i : new int[] {-1, -2, MIN}) {
                refused(x, BAD, k -> k.limb(side, i));
                refused(y, BAD, k -> k.limb(side, i));
            }
        }
        for (int which : new int[] {-1, 2, MIN, MAX}) {
            refused(y, BAD, k -> k.limb(which, 0));
            refused(y, BAD, k -> k.limb(which, 100));
        }
        of("digits to the base 1073741824, the lowest first");
        y = shared(30);
        y.burns(10);
        due(2, y.sign(2));
        due(0, y.limb(1, 0));
        due(1, y.limb(1, 1));
        due(NONE, y.limb(1, 2));
        y = shared(29);
        y.burns(10);
        due(1, y.sign(2));
        due(1 << 29, y.limb(1, 0));
        fractionStays();
    }

    private static void fractionStays() {
        of("THE FRACTION ... burns, letGo alone tell it");
        CookHands x = shared(2);
        x.burns(10);
        fractionDue(x, 1, 4);
        x.letGo(0);
        fractionDue(x, 1, 1);
        x.burns(10);
        x.image(0);
        x.cooked(1);
        x.undo();
        x.from(0);
        x.knives(3);
        x.strike(true);
        x.cook(0, 0);
        x.drawn(20, 5);
        x.wages();
        read(x, "dish;");
        x.clear();
        fractionDue(x, 1, 4);
        x.burns(20);
        fractionDue(x, 1, 1);
    }

    private static void digests() {
        of("h = 709; then h = 31 h + v for each v");
        asked(new CookHands(), digestOf(0, 0, 2, 0, 0, 0, 0, 0, 1, 1), k -> k.digest());
        CookHands x = shared(30);
        x.burns(10);
        x.knives(6);
        x.strike(true);
        type(x, "abc");
        for (int i = 0; i < 16; i++) {
            x.cooked(i < 15 ? 1 : 2);
        }
        int[] told = {2, 3, 6, 16, 3, 1, 0, 1, 0, 1,
            3, 2, 0, 0, 5, 2, 0, 0, 5, 2, 0, 0, 5, 3, 2, 0, 0, 5, 2, 0, 0, 5, 2, 0, 0, 5, 0,
            3, 0, 0, 1, 0, 0, 1, 1, 2, 1, 0, 1};
        due(digestOf(told), x.digest());
        x.cook(9, 9);
        x.image(0);
        x.soonest();
        x.spared();
        due(digestOf(told), x.digest());
    }

    private static void firstReasons() {
        of("Refused, changing nothing but STATUS, the first of");
        CookHands full = longest(COOK, COOK, COOK, COOK, COOK, COOK);
        typeByEight(full, " ".repeat(200));
        refused(full, BAD, k -> k.cook(6, 9));
        refused(full, BAD, k -> k.cook(5, 10));
        refused(full, FULL, k -> k.cook(5, 9));
        refused(full, BAD, k -> k.step(2, 1, 0, 2, 1));
        refused(full, FULL, k -> k.step(2, 1, 0, 1, 1));
        refused(full, FULL, k -> k.dish());
        refused(full, BAD, k -> k.type(0, 9));
        refused(full, FULL, k -> k.type(0, 8));
        CookHands none = withDish(kitchen(COOK), 2, 0, 0, 1);
        refused(none, BAD, k -> k.burns(21));
        refused(none, NO, k -> k.burns(20));
        refused(none, BAD, k -> k.letGo(1));
        refused(none, NO, k -> k.letGo(0));
        refused(none, BAD, k -> k.cooked(3));
        refused(none, NO, k -> k.cooked(1));
        refused(none, BAD, k -> k.from(2));
        refused(none, NO, k -> k.from(1));
        of("(where others are told they count as these)");
        refused(none, BAD, -10, k -> k.drawn(21, 0));
        refused(none, NO, -20, k -> k.drawn(20, 0));
        refused(none, BAD, -10, k -> k.row(-1));
        refused(none, BAD, -10, k -> k.whose(2, 0));
        refused(none, BAD, -10, k -> k.help(2));
        refused(none, BAD, NONE, k -> k.status(3));
        of("... NONE, -5, a CARD's faults are no refusals");
        asked(none, -5, k -> k.row(0));
        asked(none, NONE, k -> k.whose(1, 0));
        asked(none, -5, k -> k.whose(0, 0));
        asked(none, NONE, k -> k.soonest());
        asked(none, NONE, k -> k.cold(60));
        asked(none, NONE, k -> k.help(1));
        asked(none, NONE, k -> k.spared());
        asked(none, NONE, k -> k.strikeCost());
        asked(none, NONE, k -> k.wages());
        asked(none, NONE, k -> k.limb(0, 0));
        type(none, "strike;strike");
        asked(none, -23, k -> k.read());
        type(none, ";");
        asked(none, -1001, k -> k.read());
    }
}
