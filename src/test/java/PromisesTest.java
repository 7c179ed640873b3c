/** Each promise of the document by calls whose answers were worked out by hand. */
public final class PromisesTest {
    private interface Call {
        Object of();
    }

    private static final Class<?> S = IllegalStateException.class;
    private static final Class<?> I = IndexOutOfBoundsException.class;
    private static final Class<?> A = IllegalArgumentException.class;
    private static final int NONE = ChaseLocker.NONE;

    private static int wrong = 0;
    private static int promise = 0;
    private static int step = 0;

    private static void promise(int number) {
        promise = number;
        step = 0;
    }

    private static void is(Object got, Object due) {
        step++;
        if (!got.equals(due)) {
            wrong++;
            System.out.println("promise " + promise + ", check " + step + ": answered " + got + ", due is " + due);
        }
    }

    private static void fails(Class<?> due, Call call) {
        Object got;
        try {
            got = call.of();
        } catch (RuntimeException e) {
            got = e.getClass();
        }
        is(got, due);
    }

    /** Appends a text, filled up with blanks. */
    private static void type(ChaseLocker x, String text) {
        StringBuilder b = new StringBuilder(text);
        while (b.length() % 20 != 0) {
            b.append(' ');
        }
        for (int i = 0; i < b.length(); i += 20) {
            x.append(word(b, i), word(b, i + 4), word(b, i + 8), word(b, i + 12), word(b, i + 16));
        }
    }

    private static int word(CharSequence s, int i) {
        return s.charAt(i) << 24 | s.charAt(i + 1) << 16 | s.charAt(i + 2) << 8 | s.charAt(i + 3);
    }

    private static int load(ChaseLocker x, String text) {
        type(x, text);
        return x.load(text.length());
    }

    private static ChaseLocker chase(String text) {
        ChaseLocker x = new ChaseLocker();
        load(x, text);
        return x;
    }

    private static String text(ChaseLocker x, int length) {
        StringBuilder b = new StringBuilder();
        for (int i = 0; i < length; i++) {
            b.append((char) x.textByte(i));
        }
        fails(I, () -> x.textByte(length));
        return b.toString();
    }

    private static String rowText(ChaseLocker x, int row) {
        return text(x, x.writeRow(row));
    }

    private static String choiceText(ChaseLocker x, int row) {
        return text(x, x.writeChoice(row));
    }

    private static String stockText(ChaseLocker x) {
        return text(x, x.writeStock());
    }

    /** LONG 50, three rows, quoins of 5 to 9, two of them; three kinds. */
    private static final String BASE =
        "chase 50 3 5 4 2;rules 2 3 40;wood 10 3;metal 10 1;wood 3 4;row 0 20;row 1 30 12";

    private static ChaseLocker base() {
        return chase(BASE);
    }

    // ---- input

    private static void input() {
        promise(1);
        ChaseLocker fresh = new ChaseLocker();
        is(fresh.buffered(), 0);
        is(fresh.parseError(), 0);
        is(fresh.errorPosition(), NONE);
        is(fresh.undoable(), 0);
        fails(S, () -> fresh.count(0));

        promise(2);
        ChaseLocker x = new ChaseLocker();
        is(x.append(0x63686173, 0x65203530, 0x20312035, 0x20342031, 0x3b72756c), 20);
        is(x.append(0x65732032, 0x20332034, 0x303b776f, 0x6f642031, 0x20312020), 40);
        is(x.load(38), 1);
        is(x.kind(0, 1), 1);
        for (int i = 1; i <= 25; i++) {
            is(x.append(-1, i, 0, 0x80808080, 7), 20 * i);
        }
        is(x.append(0, 0, 0, 0, 0), NONE);
        is(x.buffered(), 500);
        fails(A, () -> x.load(500));
        is(x.append(0, 0, 0, 0, 0), 20);

        promise(3);
        ChaseLocker y = new ChaseLocker();
        fails(I, () -> y.load(-1));
        fails(I, () -> y.load(1));
        fails(A, () -> y.load(0));
        is(y.errorPosition(), 0);
        type(y, "chase 9");
        fails(I, () -> y.load(21));
        is(y.buffered(), 20);
        is(y.parseError(), 1);
        fails(A, () -> y.load(7));
        is(y.buffered(), 0);
        fails(S, () -> y.count(0));
        is(load(y, BASE), 3);
        y.lock(0);
        y.print(1);
        y.rest(1);
        y.save(0);
        is(y.undoable(), 3);
        fails(A, () -> load(y, "chase 9"));
        is(y.undoable(), 3);
        is(y.count(6), 1);
        is(y.setting(0), 50);
        is(y.restore(0), 1);
        y.unlock(1);
        is(load(y, BASE + ";metal 99 99"), 4);
        is(y.undoable(), 0);
        is(y.count(6), 0);
        is(y.count(8), 0);
        is(y.count(4), 0);
        is(y.count(2), 2);
        fails(S, () -> y.restore(0));
        fails(S, () -> y.undo());
        is(load(y, "chase 10 1 1 0 0;rules 0 0 1"), 0);
        is(y.count(1), 0);
        is(y.count(3), 0);
        is(y.count(11), 0);
        is(y.kindOf(false, 10), NONE);

        load(y, BASE);
        y.lock(0);
        y.print(1);
        y.freshChoice(1);
        y.goodIn(9);
        is(load(y, BASE), 3);
        is(all(y), all(base()));

        promise(6);
        is(y.buffered(), 0);
        type(y, "chase");
        is(y.buffered(), 20);
        fails(I, () -> y.load(99));
        is(y.buffered(), 20);
        fails(A, () -> y.load(3));
        is(y.buffered(), 0);
    }

    private static void bad(String text, int code, int place) {
        ChaseLocker x = new ChaseLocker();
        fails(A, () -> load(x, text));
        is(text + " " + x.parseError(), text + " " + code);
        is(text + " " + x.errorPosition(), text + " " + place);
    }

    private static void good(String text) {
        ChaseLocker x = new ChaseLocker();
        type(x, "chase 9");
        fails(A, () -> x.load(7));
        load(x, text);
        is(x.parseError(), 0);
        is(x.errorPosition(), NONE);
    }

    private static final String HEAD = "chase 50 3 5 4 2;rules 2 3 40";

    private static void errors() {
        promise(4);
        good(HEAD);
        good("chase500 8 50 20 20;rules9 9 999");
        good("chase 10 1 1 0 0;rules 0 0 1");
        good("  chase 050 003 005 4 2  ;  rules 2 3 040  ");
        good(HEAD + ";row 0;row 1;row 2");
        good(HEAD + ";row 2 10 10 10 10 9 1;wood 99 99;row 1 50;metal 99 0");
        good("chase 500 1 5 4 2;rules 2 3 40;row 0 200 200 100");
        good(HEAD + ";wood 1 1;metal 1 1;wood 2 1;metal 2 1;wood 3 1;metal 3 1;wood 4 1;metal 4 1;wood 5 1;metal 5 1;row 0 1");

        promise(5);
        bad("", 1, 0);
        bad("   ", 1, 3);
        bad("Chase 50", 1, 0);
        bad("chases 50", 1, 0);
        bad("chas", 1, 0);
        bad("chasechase 50", 1, 0);
        bad("50", 1, 0);
        bad(";", 1, 0);
        bad("chase", 1, 5);
        bad("chase  ", 1, 7);
        bad("chase\t50", 1, 5);
        bad("chase 9 9", 2, 6);
        bad("chase 501", 2, 6);
        bad("chase 0050", 1, 6);
        bad("chase 5000", 1, 6);
        bad("chase 4294967346", 1, 6);
        bad("chase 50 0", 2, 9);
        bad("chase 50 9", 2, 9);
        bad("chase 50 3 0", 2, 11);
        bad("chase 50 3 51", 2, 11);
        bad("chase 50 3 5 21", 2, 13);
        bad("chase 50 3 5 4 21", 2, 15);
        bad("chase 50 3 5 4 2 1", 1, 17);
        bad("chase 50 3 5 4;", 1, 14);
        bad("chase 50 3 5 4 2", 1, 16);
        bad("chase 50 3 5 4 2;", 1, 17);
        bad("chase 50 3 5 4 2;;", 1, 17);
        bad("chase 50 3 5 4 2;wood 1 1", 1, 17);
        bad("chase 50 3 5 4 2;rules 10", 2, 23);
        bad("chase 50 3 5 4 2;rules 2 10", 2, 25);
        bad("chase 50 3 5 4 2;rules 2 3 0", 2, 27);
        bad("chase 50 3 5 4 2;rules 2 3 1000", 1, 27);
        bad("chase 50 3 5 4 2;rules 2 3", 1, 26);
        bad("chase 50 3 5 4 2;rules -2", 1, 23);
        String h = HEAD + ";";
        int n = h.length();
        bad(h, 1, n);
        bad(HEAD + " 1", 1, n);
        bad(HEAD + " row", 1, n);
        bad(h + ";", 1, n);
        bad(h + "5", 1, n);
        bad(h + "rules 2 3 40", 1, n);
        bad(h + "wood", 1, n + 4);
        bad(h + "wood x", 1, n + 5);
        bad(h + "wood 0", 2, n + 5);
        bad(h + "wood 100", 2, n + 5);
        bad(h + "wood 5", 1, n + 6);
        bad(h + "wood 5;", 1, n + 6);
        bad(h + "wood 5 100", 2, n + 7);
        bad(h + "wood 5 9 9", 1, n + 9);
        bad(h + "wood 5 9 metal 3 4", 1, n + 9);
        bad(h + "wood 5 9;metal 5 9;wood 5 1000", 3, n + 24);
        bad(h + "wood 5 9;wood 5", 3, n + 14);
        bad(h + "wood 5 9;wood 0", 2, n + 14);
        bad(h + "row", 1, n + 3);
        bad(h + "row;", 1, n + 3);
        bad(h + "row 3", 2, n + 4);
        bad(h + "row 0;row 0 5", 3, n + 10);
        bad(h + "row 0 5;row 000", 3, n + 12);
        bad(h + "row 0 0", 2, n + 6);
        bad(h + "row 0 201", 2, n + 6);
        bad(h + "row 0 51", 5, n + 6);
        bad(h + "row 0 30 21 5", 5, n + 9);
        bad(h + "row 0 1 1 1 1 1 1 1", 4, n + 18);
        bad(h + "row 0 1 1 1 1 1 1 0", 2, n + 18);
        bad(h + "row 0 1 1 1 1 1 1 99", 4, n + 18);
        bad(h + "row 0 1 1 1 1 1 1 1000", 1, n + 18);
        bad(h + "row 0 1 wood", 1, n + 8);
        bad(h + "row 0 1 \u00e9", 1, n + 8);
        bad(h + "row 0 ;", 1, n + 7);
        String ten = h + "wood 1 1;wood 2 1;wood 3 1;wood 4 1;wood 5 1;metal 1 1;metal 2 1;metal 3 1;metal 4 1;metal 5 1;";
        bad(ten + "wood 1 1", 4, ten.length());
        bad(ten + "metal", 4, ten.length());
        bad(ten + "metals", 1, ten.length());
        bad(ten + "row 3", 2, ten.length() + 4);

        ChaseLocker x = new ChaseLocker();
        type(x, HEAD + ";junk");
        is(x.load(HEAD.length()), 0);
        is(x.buffered(), 0);
        fails(A, () -> load(x, "chase 50 300"));
        is(x.errorPosition(), 9);
        fails(I, () -> x.load(5));
        promise(4);
        is(x.parseError(), 2);
        load(x, HEAD);
        is(x.parseError(), 0);
    }

    // ---- what there is

    private static void counts() {
        promise(7);
        fails(S, () -> new ChaseLocker().count(12));
        ChaseLocker x = base();
        int[] due = {3, 3, 2, 3, 0, 0, 0, 0, 0, 0, 0, 8};
        for (int what = 0; what < due.length; what++) {
            is(x.count(what), due[what]);
        }
        fails(A, () -> x.count(-1));
        fails(A, () -> x.count(12));
        x.lock(0);
        is(x.count(2), 1);
        is(x.count(4), 3);
        is(x.count(5), 1);
        is(x.count(11), 5);
        x.print(1);
        is(x.count(5), 0);
        is(x.count(6), 1);
        is(x.count(7), 0);
        is(x.count(9), 2);
        is(x.count(10), 1);
        x.print(3);
        is(x.count(7), 3);
        x.rest(2);
        is(x.count(8), 2);

        promise(8);
        fails(S, () -> new ChaseLocker().setting(6));
        int[] settings = {50, 5, 4, 2, 3, 40};
        ChaseLocker y = base();
        for (int what = 0; what < settings.length; what++) {
            is(y.setting(what), settings[what]);
        }
        fails(A, () -> y.setting(-1));
        fails(A, () -> y.setting(6));
    }

    private static void rowProperties(ChaseLocker x, int row, int... due) {
        for (int what = 0; what < due.length; what++) {
            is(row + " " + what + ": " + x.row(row, what), row + " " + what + ": " + due[what]);
        }
    }

    private static void properties() {
        promise(9);
        fails(S, () -> new ChaseLocker().row(-1, 9));
        ChaseLocker x = base();
        rowProperties(x, 0, 1, 0, 20, 30, NONE, 0, 0, 20, NONE);
        rowProperties(x, 1, 2, 0, 42, 8, NONE, 0, 0, 42, NONE);
        rowProperties(x, 2, 0, 0, 0, 50, NONE, 0, 0, 0, NONE);
        fails(I, () -> x.row(-1, 9));
        fails(I, () -> x.row(3, 9));
        fails(A, () -> x.row(0, -1));
        fails(A, () -> x.row(0, 9));
        x.lock(0);
        x.put(1, 2);
        x.put(1, 2);
        rowProperties(x, 0, 1, 3, 50, 0, 2, 0, 2, 20, 0);
        rowProperties(x, 1, 2, 2, 48, 2, NONE, 0, 2, 42, NONE);
        x.print(1);
        x.tighten(0);
        rowProperties(x, 0, 1, 3, 50, 0, 3, 0, 2, 20, 1);

        promise(10);
        fails(S, () -> new ChaseLocker().block(0, 0));
        is(x.block(1, 0), 30);
        is(x.block(1, 1), 12);
        fails(I, () -> x.block(1, 2));
        fails(I, () -> x.block(1, -1));
        fails(I, () -> x.block(3, 0));
        fails(I, () -> x.block(-1, 0));

        promise(11);
        fails(S, () -> new ChaseLocker().piece(0, 0));
        is(x.piece(0, 0), 1);
        is(x.piece(0, 1), 0);
        is(x.piece(0, 2), 2);
        fails(I, () -> x.piece(0, 3));
        fails(I, () -> x.piece(0, -1));
        fails(I, () -> x.piece(3, 0));
        fails(I, () -> x.piece(2, 0));
        fails(I, () -> x.piece(-1, 0));

        promise(12);
        fails(S, () -> new ChaseLocker().kind(0, 4));
        int[][] due = {{0, 10, 2, 1}, {1, 10, 0, 1}, {0, 3, 1, 3}};
        for (int kind = 0; kind < 3; kind++) {
            for (int what = 0; what < 4; what++) {
                is(x.kind(kind, what), due[kind][what]);
            }
        }
        fails(I, () -> x.kind(-1, 4));
        fails(I, () -> x.kind(3, 4));
        fails(A, () -> x.kind(0, -1));
        fails(A, () -> x.kind(0, 4));

        promise(13);
        fails(S, () -> new ChaseLocker().kindOf(false, 1));
        is(x.kindOf(false, 10), 0);
        is(x.kindOf(true, 10), 1);
        is(x.kindOf(false, 3), 2);
        is(x.kindOf(true, 3), NONE);
        is(x.kindOf(true, -7), NONE);
        is(x.kindOf(false, 0), NONE);
        is(x.kindOf(false, Integer.MAX_VALUE), NONE);

        promise(14);
        fails(S, () -> new ChaseLocker().isTight(0));
        is(x.isTight(0), true);
        is(x.isTight(1), false);
        x.print(1);
        is(x.row(0, 3), 0);
        is(x.isTight(0), false);
        is(x.isTight(2), false);
        fails(I, () -> x.isTight(3));
        fails(I, () -> x.isTight(-1));
    }

    private static void looks() {
        ChaseLocker none = chase("chase 30 4 5 4 2;rules 1 1 99");
        ChaseLocker x = chase("chase 30 4 5 4 2;rules 1 2 999;wood 7 2;metal 7 1;metal 2 3;row 1 25;row 2 5 5 5 5 5");

        promise(15);
        fails(S, () -> new ChaseLocker().widestGap());
        is(none.widestGap(), 0);
        is(x.widestGap(), 0);
        x.put(0, 0);
        is(x.widestGap(), 3);

        promise(16);
        fails(S, () -> new ChaseLocker().loosest());
        is(none.loosest(), NONE);
        is(x.loosest(), 1);
        x.print(1);
        is(x.loosest(), 2);
        x.place(2, 1);
        is(x.loosest(), 1);

        promise(17);
        fails(S, () -> new ChaseLocker().longestLeft());
        is(none.longestLeft(), NONE);
        is(x.longestLeft(), 1);
        x.put(3, 1);
        is(x.longestLeft(), 0);
        x.put(3, 0);
        is(x.longestLeft(), 2);
        is(chase("chase 30 1 5 4 2;rules 1 1 99;wood 1 0;wood 2 0;wood 3 0;wood 4 0;wood 5 0;wood 6 0;wood 7 0;"
            + "wood 8 0;wood 9 0;wood 10 0").longestLeft(), NONE);

        promise(18);
        fails(S, () -> new ChaseLocker().lengthLeft());
        is(none.lengthLeft(), 0);
        is(x.lengthLeft(), 6);
        x.take(3, 0);
        is(x.lengthLeft(), 13);

        promise(19);
        fails(S, () -> new ChaseLocker().meanGap());
        is(none.meanGap(), 30.0);
        is(x.meanGap(), (23 + 5 + 4 + 23) / 4.0);
        is(chase("chase 10 3 5 4 2;rules 1 1 99;row 0 10").meanGap(), 20 / 3.0);

        promise(20);
        fails(S, () -> new ChaseLocker().woodShare());
        is(none.woodShare(), 0.0f);
        is(x.woodShare(), 1.0f);
        x.put(0, 2);
        is(x.woodShare(), 2 / 3.0f);

        promise(21);
        fails(S, () -> new ChaseLocker().goodShare());
        is(x.goodShare(), 0.0f);
        is(none.goodShare(), 0.0f);
        ChaseLocker y = chase("chase 10 1 5 4 2;rules 1 1 99;row 0 5 5");
        y.print(7);
        is(y.goodShare(), 4 / 7.0f);
    }

    // ---- the choice

    private static void choices() {
        promise(22);
        fails(S, () -> new ChaseLocker().choice(-1, 4));
        ChaseLocker x = base();
        // 30 is 10 + 10 + 3 and a quoin of 7
        int[] due = {3, 2, 23, 2};
        for (int what = 0; what < 4; what++) {
            is(x.choice(0, what), due[what]);
        }
        fails(I, () -> x.choice(-1, 4));
        fails(I, () -> x.choice(3, 4));
        fails(A, () -> x.choice(0, -1));
        fails(A, () -> x.choice(0, 4));
        ChaseLocker bare = chase("chase 10 1 5 4 0;rules 0 0 99;wood 4 2;row 0 2");
        int[] without = {2, NONE, 8, 2};
        for (int what = 0; what < 4; what++) {
            is(bare.choice(0, what), without[what]);
        }
        ChaseLocker full = chase("chase 10 1 5 4 0;rules 0 0 99;row 0 10");
        is(full.choice(0, 0), 0);
        is(full.choice(0, 1), NONE);
        is(full.choice(0, 2), 0);
        // a quoin is left, so none goes without it
        ChaseLocker tooFull = chase("chase 10 1 5 4 1;rules 0 0 99;row 0 10");
        for (int what = 0; what < 4; what++) {
            is(tooFull.choice(0, what), NONE);
        }
        // fewest pieces come ahead of the least opening
        ChaseLocker few = chase("chase 20 1 5 4 1;rules 0 0 99;wood 5 3;wood 11 1");
        is(choiceText(few, 0), "1xw11 q4");
        // of several with the fewest pieces the least opening
        ChaseLocker least = chase("chase 20 1 5 4 1;rules 0 0 99;wood 11 1;wood 12 1;wood 13 1");
        is(choiceText(least, 0), "1xw13 q2");
        // of several with the same opening the most of the longest
        ChaseLocker most = chase("chase 25 1 5 0 1;rules 0 0 99;wood 10 2;wood 12 1;wood 8 1");
        is(choiceText(most, 0), "1xw12 1xw8 q0");
        // greedy from the longest kind would need more pieces
        ChaseLocker greedy = chase("chase 12 1 5 0 0;rules 0 0 99;wood 9 1;wood 1 9;metal 6 2");
        is(choiceText(greedy, 0), "2xm6");
        // the present opening and take-up do not matter
        ChaseLocker again = base();
        again.quoin(1, true);
        again.open(1, 3);
        is(again.choice(1, 0), 0);
        is(again.choice(1, 1), 3);
        again.open(1, 0);
        is(again.choice(1, 0), 0);
        is(again.choice(1, 1), 3);

        promise(23);
        fails(S, () -> new ChaseLocker().chosen(0, 0));
        is(x.chosen(0, 0), 1);
        is(x.chosen(0, 1), 1);
        is(x.chosen(0, 2), 1);
        is(x.chosen(1, 0), 0);
        is(tooFull.choice(0, 0), NONE);
        ChaseLocker stuck = chase("chase 10 1 5 4 1;rules 0 0 99;wood 4 2;row 0 10");
        is(stuck.chosen(0, 0), NONE);
        fails(I, () -> x.chosen(3, 0));
        fails(I, () -> x.chosen(-1, 0));
        fails(I, () -> x.chosen(0, 3));
        fails(I, () -> x.chosen(0, -1));
        // metal comes ahead of wood of the same length
        ChaseLocker metal = chase("chase 14 1 5 0 0;rules 0 0 99;wood 7 2;metal 7 1");
        is(metal.chosen(0, 1), 1);
        is(metal.chosen(0, 0), 1);

        promise(24);
        fails(S, () -> new ChaseLocker().ways(0));
        // room 30: 10 + 10 + 3 q2 with 2 or 1 of wood; 3 * 4 + 10 q3 with either
        is(x.ways(0), 4);
        is(x.ways(1), 2);
        // 40 + 3 q7, 30 + 12 q8 with either
        is(x.ways(2), 3);
        is(stuck.ways(0), 0);
        is(full.ways(0), 1);
        is(metal.ways(0), 2);
        fails(I, () -> x.ways(3));
        fails(I, () -> x.ways(-1));
        // the last of these is far more than the modulus
        is(chase("chase 90 1 5 0 0;rules 0 0 99;wood 1 99;metal 1 99").ways(0), 91);
        ChaseLocker ten = chase("chase 500 1 5 20 0;rules 0 0 99;wood 1 99;metal 1 99;wood 2 99;metal 2 99;wood 3 99;"
            + "metal 3 99;wood 4 99;metal 4 99;wood 5 50;metal 5 20");
        is(choiceText(ten, 0), "20xm5 50xw5 37xm4 1xm2");
        ChaseLocker many = chase("chase 500 1 5 20 1;rules 0 0 99;wood 1 99;metal 1 99;wood 2 99;metal 2 99;wood 3 99;"
            + "metal 3 99;wood 4 99;metal 4 99;wood 5 99;metal 5 99");
        is(many.ways(0), waysPlainly(new int[] {1, 1, 2, 2, 3, 3, 4, 4, 5, 5}, 99, 495, 20));

        promise(25);
        fails(S, () -> new ChaseLocker().nearest(0));
        is(x.nearest(0), 0);
        is(x.nearest(1), 2);
        is(chase("chase 50 1 5 4 2;rules 2 3 40;wood 10 3").nearest(0), 20);
        ChaseLocker close = chase("chase 50 1 5 4 2;rules 2 3 40;wood 10 5");
        is(close.nearest(0), 0);
        close.quoin(0, true);
        is(close.nearest(0), 1);
        close.open(0, 4);
        is(close.nearest(0), 1);
        is(full.nearest(0), 0);
        fails(I, () -> x.nearest(3));
        fails(I, () -> x.nearest(-1));
    }

    /** The number of sums of 0 to many pieces of each length that are whole, whole less 1, .. whole less span. */
    private static int waysPlainly(int[] lengths, int many, int whole, int span) {
        long[] ways = new long[whole + 1];
        ways[0] = 1;
        for (int length : lengths) {
            long[] more = new long[whole + 1];
            for (int n = 0; n <= many; n++) {
                for (int t = n * length; t <= whole; t++) {
                    more[t] = (more[t] + ways[t - n * length]) % 1000003;
                }
            }
            ways = more;
        }
        long sum = 0;
        for (int t = whole - span; t <= whole; t++) {
            sum += ways[t];
        }
        return (int) (sum % 1000003);
    }

    private static void wouldBe() {
        ChaseLocker x = base();
        promise(26);
        fails(S, () -> new ChaseLocker().fewestAt(-1, 0));
        is(x.fewestAt(0, 10), 2);
        is(x.fewestAt(1, 3), 0);
        is(x.fewestAt(1, 4), NONE);
        is(x.fewestAt(1, 9), NONE);
        is(x.fewestAt(2, 200), NONE);
        fails(I, () -> x.fewestAt(-1, 0));
        fails(I, () -> x.fewestAt(3, 0));
        fails(A, () -> x.fewestAt(0, 0));
        fails(A, () -> x.fewestAt(0, 201));
        ChaseLocker six = chase("chase 20 1 5 4 1;rules 0 0 99;row 0 1 1 1 1 1 1");
        is(six.fewestAt(0, 9), NONE);
        six.lift(0, 0);
        is(six.fewestAt(0, 9), 0);
        is(six.fewestAt(0, 10), 0);
        is(six.fewestAt(0, 11), NONE);
        // the block does not go in at the present opening
        six.quoin(0, true);
        six.open(0, 4);
        is(six.fewestAt(0, 6), 0);
        is(six.fewestAt(0, 7), NONE);
        is(x.count(3), 3);

        promise(27);
        fails(S, () -> new ChaseLocker().rowFor(0));
        is(x.rowFor(3), 1);
        is(x.rowFor(23), 0);
        is(x.rowFor(200), NONE);
        is(chase("chase 20 3 5 4 1;rules 0 0 99;row 0 1;row 1 2;row 2 2").rowFor(13), 0);
        is(chase("chase 20 3 5 4 1;rules 0 0 99;row 0 19;row 1 2;row 2 2").rowFor(13), 1);
        fails(A, () -> x.rowFor(0));
        fails(A, () -> x.rowFor(201));

        promise(28);
        fails(S, () -> new ChaseLocker().missing(0));
        ChaseLocker y = chase("chase 20 1 5 1 1;rules 0 0 99;metal 3 1;wood 6 1;wood 3 1;metal 6 1");
        // 15 or 14: 6 + 6 + 3 is there
        is(y.missing(0), NONE);
        y.place(0, 1);
        // 14 or 13: no piece more makes it, as all lengths are multiples of 3
        is(y.missing(0), NONE);
        is(chase("chase 15 1 5 1 0;rules 0 0 99;metal 3 0;wood 5 2;metal 5 0;wood 3 0").missing(0), 2);
        is(chase("chase 15 1 5 1 0;rules 0 0 99;metal 3 4;wood 4 2;wood 3 0").missing(0), 1);
        is(chase("chase 15 1 5 1 0;rules 0 0 99;wood 3 0;metal 3 4;wood 4 1").missing(0), 1);
        is(chase("chase 16 1 5 1 0;rules 0 0 99;wood 8 1;wood 4 3").missing(0), NONE);
        is(chase("chase 16 1 5 1 0;rules 0 0 99;wood 4 1;wood 8 1").missing(0), 1);
        is(chase("chase 16 1 5 1 0;rules 0 0 99;wood 4 1;wood 9 1").missing(0), NONE);
        fails(I, () -> x.missing(3));
        fails(I, () -> x.missing(-1));

        promise(29);
        fails(S, () -> new ChaseLocker().canPut(0, 0));
        is(x.canPut(0, 0), true);
        is(x.canPut(1, 0), false);
        is(x.canPut(1, 2), true);
        x.put(2, 1);
        is(x.canPut(0, 1), false);
        ChaseLocker exact = chase("chase 20 1 5 1 1;rules 0 0 99;metal 5 1;row 0 15");
        is(exact.canPut(0, 0), true);
        fails(I, () -> x.canPut(3, 0));
        fails(I, () -> x.canPut(-1, 0));
        fails(I, () -> x.canPut(0, 3));
        fails(I, () -> x.canPut(0, -1));

        promise(30);
        fails(S, () -> new ChaseLocker().freshChoice(0));
        ChaseLocker z = chase("chase 20 2 5 2 1;rules 0 0 99;wood 2 4;metal 6 1;row 0 8");
        is(z.freshChoice(0), 1);
        z.put(0, 1);
        z.put(0, 0);
        is(z.choice(0, 0), NONE);
        is(z.freshChoice(0), 1);
        z.take(0, 1);
        z.quoin(0, true);
        is(z.freshChoice(0), 1);
        z.take(0, 0);
        z.put(1, 1);
        is(z.freshChoice(0), 3);
        is(z.freshChoice(1), NONE);
        is(z.count(4), 1);
        is(z.row(0, 4), 0);
        fails(I, () -> z.freshChoice(2));
        fails(I, () -> z.freshChoice(-1));

        promise(31);
        fails(S, () -> new ChaseLocker().fillable(-1));
        ChaseLocker f = chase("chase 20 1 5 2 1;rules 0 0 99;wood 3 2;metal 5 1");
        is(f.fillable(0), 1);
        is(f.fillable(4), 2);
        is(f.fillable(11), 6);
        is(f.fillable(20), 6);
        fails(A, () -> f.fillable(-1));
        fails(A, () -> f.fillable(21));
        f.put(0, 1);
        is(f.fillable(20), 3);
    }

    private static void turnsAhead() {
        promise(32);
        fails(S, () -> new ChaseLocker().fallsIn(0, true));
        ChaseLocker x = chase("chase 20 4 5 4 2;rules 2 3 40;wood 5 4;row 0 10 10;row 1 10;row 2 10 5");
        is(x.fallsIn(0, false), 11);
        is(x.fallsIn(0, true), NONE);
        is(x.fallsIn(1, false), 1);
        is(x.fallsIn(1, true), 1);
        is(x.fallsIn(3, false), NONE);
        x.put(2, 0);
        is(x.fallsIn(2, true), 14);
        x.put(3, 0);
        is(x.fallsIn(3, true), NONE);
        x.rest(13);
        is(x.fallsIn(2, true), 1);
        is(x.fallsIn(2, false), 1);
        fails(I, () -> x.fallsIn(4, true));
        fails(I, () -> x.fallsIn(-1, true));
        is(chase("chase 10 1 5 4 2;rules 1 1 199;row 0 10").fallsIn(0, false), 200);
        is(chase("chase 10 1 5 4 2;rules 1 1 200;row 0 10").fallsIn(0, false), NONE);

        promise(33);
        fails(S, () -> new ChaseLocker().goodIn(-1));
        ChaseLocker y = chase("chase 20 2 5 4 2;rules 2 3 40;row 0 10 10;row 1 19");
        is(y.goodIn(0), 0);
        // row 1 falls in the 16th impression, row 0 in the 11th; then there are no blocks
        is(y.goodIn(16), 0);
        is(y.goodIn(20), 4);
        is(y.goodIn(200), 184);
        is(y.count(6), 0);
        is(y.count(3), 3);
        fails(A, () -> y.goodIn(-1));
        fails(A, () -> y.goodIn(201));
        is(chase("chase 20 1 5 4 2;rules 2 3 99;row 0 10 10").goodIn(100), 2 + 100 - 25);
        is(chase("chase 20 1 5 4 2;rules 0 3 1;row 0 10 10").goodIn(200), 200);

        promise(34);
        fails(S, () -> new ChaseLocker().lockable());
        is(base().lockable(), 7);
        is(chase("chase 20 4 5 4 1;rules 0 0 9;wood 6 1;row 0 20;row 1 15;row 2 11;row 3 8").lockable(), 2 + 4 + 8);
        is(chase("chase 20 4 5 4 0;rules 0 0 9;wood 6 1;row 0 20;row 1 15;row 2 14;row 3 8").lockable(), 1 + 4);

        promise(35);
        fails(S, () -> new ChaseLocker().lockedAll());
        ChaseLocker z = base();
        is(z.lockedAll(), 2);
        is(z.count(4), 0);
        is(z.count(2), 2);
        // row 0 takes the one piece and the one quoin; row 1 is tight as it is; row 2 gets none
        ChaseLocker w = chase("chase 20 3 5 4 1;rules 1 0 9;wood 6 1;row 0 9;row 1 20;row 2 9");
        is(w.lockedAll(), 2);
        w.print(1);
        is(w.count(10), 2);
        is(w.lockedAll(), 0);
    }

    // ---- texts

    private static void texts() {
        promise(36);
        fails(S, () -> new ChaseLocker().writeRow(0));
        ChaseLocker x = base();
        is(rowText(x, 1), "[30] [12]");
        is(rowText(x, 2), "");
        x.lock(0);
        is(rowText(x, 0), "[20] m10 w10 w3 q2");
        x.quoin(2, true);
        is(rowText(x, 2), "q0");
        x.put(2, 2);
        is(rowText(x, 2), "w3 q0");
        fails(I, () -> x.writeRow(3));
        fails(I, () -> x.writeRow(-1));

        promise(37);
        fails(S, () -> new ChaseLocker().writeChoice(0));
        ChaseLocker y = base();
        is(choiceText(y, 0), "1xm10 1xw10 1xw3 q2");
        is(choiceText(y, 1), "q3");
        is(choiceText(chase("chase 10 1 5 4 1;rules 0 0 9;row 0 10"), 0), "-");
        is(choiceText(chase("chase 10 1 5 4 0;rules 0 0 9;row 0 10"), 0), "");
        is(choiceText(chase("chase 10 1 5 4 0;rules 0 0 9;wood 1 20"), 0), "10xw1");
        fails(I, () -> y.writeChoice(3));
        fails(I, () -> y.writeChoice(-1));

        promise(38);
        fails(S, () -> new ChaseLocker().writeStock());
        is(stockText(y), "w10:3,m10:1,w3:4");
        is(stockText(x), "w10:2,m10:0,w3:2");
        is(stockText(chase(HEAD)), "");

        promise(39);
        fails(I, () -> new ChaseLocker().textByte(0));
        ChaseLocker z = new ChaseLocker();
        fails(I, () -> z.textByte(0));
        load(z, BASE);
        fails(I, () -> z.textByte(0));
        z.writeRow(0);
        is(z.textByte(0), 91);
        is(z.textByte(3), 93);
        fails(I, () -> z.textByte(4));
        fails(I, () -> z.textByte(-1));
        // the text stays behind changes, undo, load and restore, and behind a call that throws
        z.lock(0);
        z.undo();
        z.save(0);
        z.writeStock();
        z.restore(0);
        is(text(z, 16), "w10:3,m10:1,w3:4");
        fails(I, () -> z.writeRow(7));
        load(z, HEAD);
        is(text(z, 16), "w10:3,m10:1,w3:4");
        is(z.writeStock(), 0);
        fails(I, () -> z.textByte(0));
    }

    // ---- changes

    private static void blocksAndPieces() {
        promise(40);
        fails(S, () -> new ChaseLocker().place(-1, 0));
        ChaseLocker x = base();
        is(x.place(1, 3), 5);
        is(x.place(1, 5), 0);
        is(rowText(x, 1), "[30] [12] [3] [5]");
        is(x.undoable(), 2);
        fails(I, () -> x.place(-1, 0));
        fails(I, () -> x.place(3, 0));
        fails(A, () -> x.place(0, 0));
        fails(A, () -> x.place(0, 201));
        fails(A, () -> x.place(0, 31));
        fails(A, () -> x.place(1, 1));
        for (int i = 0; i < 6; i++) {
            x.place(2, 1);
        }
        fails(A, () -> x.place(2, 1));
        is(x.row(2, 3), 44);
        is(x.undoable(), 8);
        is(chase("chase 500 1 1 1 1;rules 1 1 1").place(0, 200), 300);

        promise(41);
        fails(S, () -> new ChaseLocker().lift(0, 0));
        is(x.lift(1, 1), 12);
        is(rowText(x, 1), "[30] [3] [5]");
        is(x.row(1, 3), 12);
        fails(I, () -> x.lift(1, 3));
        fails(I, () -> x.lift(1, -1));
        fails(I, () -> x.lift(3, 0));
        fails(I, () -> x.lift(-1, 0));
        is(x.lift(1, 2), 5);
        is(x.lift(1, 0), 30);
        is(rowText(x, 1), "[3]");
        x.undo();
        is(rowText(x, 1), "[30] [3]");

        promise(42);
        fails(S, () -> new ChaseLocker().put(0, 0));
        ChaseLocker y = base();
        is(y.put(0, 1), 20);
        is(y.put(0, 0), 10);
        is(y.put(0, 0), 0);
        is(rowText(y, 0), "[20] m10 w10 w10");
        is(y.kind(0, 2), 1);
        is(y.undoable(), 3);
        fails(A, () -> y.put(0, 0));
        fails(A, () -> y.put(2, 1));
        fails(I, () -> y.put(3, 0));
        fails(I, () -> y.put(-1, 0));
        fails(I, () -> y.put(0, 3));
        fails(I, () -> y.put(0, -1));
        is(y.undoable(), 3);

        promise(43);
        fails(S, () -> new ChaseLocker().take(0, 0));
        is(y.take(0, 1), 0);
        is(y.take(0, 0), 1);
        is(rowText(y, 0), "[20] w10");
        is(stockText(y), "w10:2,m10:1,w3:4");
        is(y.row(0, 3), 20);
        is(y.undoable(), 5);
        fails(I, () -> y.take(0, 1));
        fails(I, () -> y.take(0, -1));
        fails(I, () -> y.take(3, 0));
        fails(I, () -> y.take(-1, 0));
        // a long row keeps its order when a piece in front goes out
        ChaseLocker z = chase("chase 500 1 5 4 2;rules 1 1 99;wood 1 99;metal 1 99");
        for (int i = 0; i < 40; i++) {
            z.put(0, i % 3 == 0 ? 1 : 0);
        }
        is(z.take(0, 3), 1);
        for (int i = 0; i < 39; i++) {
            int before = i < 3 ? i : i + 1;
            is(z.piece(0, i), before % 3 == 0 ? 1 : 0);
        }
        is(z.row(0, 6), 26);
        is(z.kind(1, 2), 86);
        is(z.kind(1, 3), 13);
    }

    private static void quoins() {
        promise(44);
        fails(S, () -> new ChaseLocker().quoin(0, true));
        ChaseLocker x = base();
        is(x.quoin(0, true), 25);
        is(x.row(0, 4), 0);
        is(x.row(0, 8), 0);
        is(x.count(2), 1);
        fails(A, () -> x.quoin(0, true));
        fails(A, () -> x.quoin(1, false));
        is(x.quoin(1, true), 3);
        fails(A, () -> x.quoin(2, true));
        is(x.undoable(), 2);
        x.open(1, 3);
        is(x.quoin(1, false), 8);
        is(x.row(1, 4), NONE);
        is(x.row(1, 8), NONE);
        is(x.count(2), 1);
        is(x.quoin(1, true), 3);
        is(x.row(1, 4), 0);
        x.quoin(1, false);
        x.place(1, 4);
        fails(A, () -> x.quoin(1, true));
        x.lift(1, 2);
        x.place(1, 3);
        is(x.quoin(1, true), 0);
        fails(I, () -> x.quoin(3, true));
        fails(I, () -> x.quoin(-1, false));
        // the slack stays
        ChaseLocker s = chase("chase 20 1 5 4 2;rules 2 3 99;row 0 14");
        s.quoin(0, true);
        s.print(3);
        is(s.quoin(0, false), 6);
        is(s.row(0, 5), 6);
        is(s.quoin(0, true), 1);
        is(s.row(0, 5), 6);

        promise(45);
        fails(S, () -> new ChaseLocker().open(-1, -1));
        is(x.open(0, 4), 21);
        is(x.row(0, 4), 4);
        is(x.open(0, 2), 23);
        is(x.open(0, 0), 25);
        fails(A, () -> x.open(0, 5));
        fails(A, () -> x.open(0, -1));
        fails(A, () -> x.open(1, 1));
        fails(A, () -> x.open(2, 0));
        fails(I, () -> x.open(3, 9));
        fails(I, () -> x.open(-1, 9));
        // the take-up becomes 0
        s.tighten(0);
        is(s.row(0, 8), 1);
        is(s.row(0, 4), 1);
        is(s.row(0, 3), 1);
        is(s.open(0, 1), 0);
        is(s.row(0, 8), 0);
        fails(A, () -> s.open(0, 2));
        is(s.open(0, 0), 1);
        is(s.row(0, 5), 0);

        promise(49);
        fails(S, () -> new ChaseLocker().tighten(0));
        ChaseLocker t = chase("chase 20 2 5 2 2;rules 9 3 999;row 0 10 5");
        fails(A, () -> t.tighten(0));
        is(t.quoin(0, true), 0);
        is(t.tighten(0), 0);
        is(t.undoable(), 2);
        t.print(1);
        is(t.tighten(0), 0);
        is(t.row(0, 4), 2);
        is(t.row(0, 8), 2);
        is(t.row(0, 2), 20);
        t.undo();
        is(t.row(0, 5), 18);
        t.print(1);
        is(t.tighten(0), 16);
        is(t.tighten(0), 16);
        is(t.row(0, 3), 0);
        fails(I, () -> t.tighten(2));
        fails(I, () -> t.tighten(-1));
    }

    private static void locks() {
        promise(46);
        fails(S, () -> new ChaseLocker().lock(-1));
        ChaseLocker x = base();
        is(x.lock(0), 3);
        is(rowText(x, 0), "[20] m10 w10 w3 q2");
        is(x.row(0, 3), 0);
        is(x.count(2), 1);
        is(x.lock(1), 0);
        is(rowText(x, 1), "[30] [12] q3");
        is(x.count(2), 0);
        is(x.undoable(), 2);
        fails(A, () -> x.lock(2));
        fails(I, () -> x.lock(3));
        fails(I, () -> x.lock(-1));
        is(x.undoable(), 2);
        // pieces that are there stay, behind them comes the choice; the slack and the take-up become 0
        ChaseLocker y = chase("chase 20 1 5 4 1;rules 2 3 999;wood 2 3;metal 3 3;row 0 8");
        y.put(0, 0);
        y.quoin(0, true);
        y.print(2);
        is(y.tighten(0), 0);
        is(y.row(0, 8), 1);
        is(y.lock(0), 1);
        is(rowText(y, 0), "[8] w2 m3 q2");
        is(y.row(0, 8), 0);
        is(y.count(2), 0);
        y.print(1);
        is(y.row(0, 5), 2);
        is(y.lock(0), 0);
        is(y.isTight(0), true);
        is(chase("chase 10 1 5 4 0;rules 0 0 9;wood 5 2").lock(0), 2);

        promise(47);
        fails(S, () -> new ChaseLocker().unlock(0));
        is(y.unlock(0), 2);
        is(rowText(y, 0), "[8]");
        is(stockText(y), "w2:3,m3:3");
        is(y.count(2), 1);
        is(y.row(0, 5), 0);
        is(y.row(0, 8), NONE);
        int before = y.undoable();
        is(y.unlock(0), 0);
        is(y.undoable(), Math.min(8, before + 1));
        y.print(1);
        is(y.row(0, 5), 2);
        y.unlock(0);
        is(y.row(0, 5), 0);
        fails(I, () -> y.unlock(1));
        fails(I, () -> y.unlock(-1));

        promise(48);
        fails(S, () -> new ChaseLocker().relock(0));
        ChaseLocker z = chase("chase 20 2 5 0 1;rules 2 3 99;wood 2 5;metal 6 1;row 0 9;row 1 16");
        z.put(0, 0);
        z.quoin(0, true);
        z.put(0, 0);
        z.put(0, 0);
        z.print(1);
        is(z.relock(0), 1);
        is(rowText(z, 0), "[9] m6 q0");
        is(z.row(0, 5), 0);
        is(z.undoable(), 6);
        z.undo();
        is(rowText(z, 0), "[9] w2 w2 w2 q0");
        is(z.row(0, 5), 2);
        is(z.undoable(), 5);
        fails(A, () -> chase("chase 20 1 5 0 1;rules 2 3 99;row 0 16").relock(0));
        z.place(1, 1);
        z.put(1, 0);
        fails(A, () -> z.relock(1));
        is(rowText(z, 1), "[16] [1] w2");
        is(z.undoable(), 7);
        fails(I, () -> z.relock(2));
        fails(I, () -> z.relock(-1));
    }

    private static void turns() {
        promise(50);
        fails(S, () -> new ChaseLocker().print(0));
        ChaseLocker x = chase("chase 20 3 5 4 3;rules 2 3 40;wood 5 4;row 0 10;row 1 10 5 5;row 2 14");
        x.lock(0);
        x.put(2, 0);
        // row 2 has a gap of 1, row 1 grows by 6, row 0 by 2
        is(x.print(1), 0);
        is(x.row(0, 5), 2);
        is(x.row(1, 5), 6);
        is(x.row(2, 5), 2);
        x.lift(2, 0);
        is(x.print(1), 0);
        is(x.row(1, 5), 12);
        is(x.print(4), 0);
        is(x.row(1, 5), 36);
        is(x.count(10), 0);
        // row 1 falls at 42; the impression is not good
        is(x.print(1), 0);
        is(x.row(1, 0), 0);
        is(x.row(1, 5), 0);
        is(x.count(9), 3);
        is(x.count(10), 1);
        is(x.count(6), 7);
        is(x.row(0, 5), 14);
        x.tighten(0);
        is(x.print(100), 4 + 100 - 20 - 1);
        is(x.count(3), 0);
        is(x.count(4), 1);
        is(x.count(2), 3);
        is(x.kind(0, 2), 3);
        is(x.count(10), 2);
        fails(A, () -> x.print(0));
        fails(A, () -> x.print(101));
        // exactly HOLD does not fall; a slack of 10 is not good
        ChaseLocker y = chase("chase 20 1 5 4 3;rules 5 3 10;row 0 20");
        is(y.print(2), 1);
        is(y.row(0, 0), 1);
        is(y.print(2), 1);
        is(y.row(0, 0), 0);
        // a row with a gap may hold
        ChaseLocker w = chase("chase 20 1 5 4 3;rules 0 3 10;row 0 19");
        is(w.print(2), 0);
        is(w.count(3), 1);
        // more than 99 may be left when a row falls
        ChaseLocker z = chase("chase 20 1 5 4 3;rules 9 3 8;wood 1 99;row 0 1");
        z.quoin(0, true);
        for (int i = 0; i < 14; i++) {
            z.put(0, 0);
        }
        z.buy(0, 14);
        is(z.print(1), 0);
        is(z.kind(0, 2), 113);
        is(z.count(2), 3);
        is(z.row(0, 1), 0);
        is(z.row(0, 4), NONE);
        fails(A, () -> z.buy(0, 1));

        promise(51);
        fails(S, () -> new ChaseLocker().rest(0));
        ChaseLocker d = chase("chase 20 4 5 4 3;rules 2 3 40;wood 5 4;metal 5 4;row 0 10;row 1 15;row 3 16");
        d.put(0, 0);
        d.put(0, 0);
        d.put(1, 1);
        d.put(2, 0);
        is(d.rest(1), 0);
        is(d.row(0, 5), 6);
        is(d.row(1, 5), 0);
        is(d.row(2, 5), 3);
        // row 3 has a gap of 4 and stands at just HOLD
        is(d.rest(5), 0);
        is(d.row(0, 5), 36);
        is(d.rest(1), 1);
        is(d.row(0, 5), 0);
        is(d.row(0, 0), 0);
        is(d.row(2, 5), 21);
        is(d.count(8), 7);
        is(d.count(9), 1);
        is(d.count(10), 1);
        is(d.count(6), 0);
        is(d.kind(0, 2), 3);
        is(d.rest(100), 0);
        is(d.row(2, 5), 321);
        is(d.count(8), 107);
        d.place(2, 1);
        d.lift(3, 0);
        d.place(3, 15);
        is(d.rest(1), 2);
        is(d.undoable(), 8);
        fails(A, () -> d.rest(0));
        fails(A, () -> d.rest(101));
        fails(A, () -> d.rest(-1));

        promise(52);
        fails(S, () -> new ChaseLocker().buy(-1, 0));
        ChaseLocker b = base();
        is(b.buy(0, 1), 4);
        is(b.buy(0, 95), 99);
        fails(A, () -> b.buy(0, 1));
        fails(A, () -> b.buy(1, 0));
        fails(A, () -> b.buy(1, 100));
        fails(A, () -> b.buy(1, 99));
        fails(A, () -> b.buy(1, Integer.MIN_VALUE));
        fails(I, () -> b.buy(-1, 0));
        fails(I, () -> b.buy(3, 0));
        is(b.undoable(), 2);
        is(b.buy(1, 98), 99);
        is(chase("chase 20 1 5 4 3;rules 9 3 8;wood 1 0").buy(0, 99), 99);
    }

    // ---- undo, save and restore

    /** All that can be asked without a change, in one text. */
    private static String all(ChaseLocker x) {
        StringBuilder b = new StringBuilder();
        for (int what = 0; what < 12; what++) {
            b.append(x.count(what)).append(' ');
        }
        for (int r = 0; r < x.count(0); r++) {
            b.append(rowText(x, r)).append('/').append(x.row(r, 5)).append('/').append(x.row(r, 8)).append(' ');
        }
        return b.append(stockText(x)).toString();
    }

    private static void wayBack() {
        promise(53);
        fails(S, () -> new ChaseLocker().undo());
        ChaseLocker x = chase(BASE.replace(" 40;", " 90;"));
        fails(S, () -> x.undo());
        // the blocks of row 1 are pied in the print
        Call[] changes = {
            () -> x.place(0, 1), () -> x.put(1, 2), () -> x.lock(0), () -> x.quoin(2, true), () -> x.open(2, 1),
            () -> x.lift(1, 1), () -> x.print(2), () -> x.tighten(0), () -> x.rest(3), () -> x.relock(0),
            () -> x.unlock(0), () -> x.buy(0, 3), () -> x.put(2, 2), () -> x.take(2, 0)};
        String[] before = new String[changes.length];
        for (int i = 0; i < changes.length; i++) {
            before[i] = all(x);
            is(x.undoable(), Math.min(i, 8));
            changes[i].of();
            String behind = all(x);
            is(x.undo(), Math.min(i, 7));
            is(all(x), before[i]);
            changes[i].of();
            is(all(x), behind);
        }
        is(x.count(9), 1);
        for (int left = 7; left >= 0; left--) {
            is(x.undo(), left);
            is(all(x), before[6 + left]);
        }
        fails(S, () -> x.undo());
        is(all(x), before[6]);
        is(x.count(9), 0);

        // a change behind an undo
        ChaseLocker y = base();
        y.place(2, 1);
        y.place(2, 2);
        y.undo();
        y.place(2, 3);
        is(rowText(y, 2), "[1] [3]");
        is(y.undo(), 1);
        is(rowText(y, 2), "[1]");
        is(y.undo(), 0);
        is(rowText(y, 2), "");

        promise(54);
        is(new ChaseLocker().undoable(), 0);
        ChaseLocker u = base();
        for (int i = 1; i <= 10; i++) {
            u.unlock(2);
            is(u.undoable(), Math.min(i, 8));
        }
        fails(A, () -> u.print(0));
        u.choice(0, 0);
        u.save(1);
        is(u.undoable(), 8);
        u.undo();
        is(u.undoable(), 7);

        promise(55);
        fails(S, () -> new ChaseLocker().save(2));
        ChaseLocker z = base();
        z.lock(0);
        z.print(2);
        String saved = all(z);
        is(z.save(0), 2);
        fails(I, () -> z.save(2));
        fails(I, () -> z.save(-1));
        is(z.undoable(), 2);
        z.unlock(0);
        z.print(3);
        String second = all(z);
        is(z.save(1), 5);
        z.rest(1);

        promise(56);
        ChaseLocker none = new ChaseLocker();
        fails(I, () -> none.restore(2));
        fails(I, () -> none.restore(-1));
        fails(S, () -> none.restore(0));
        is(z.undoable(), 5);
        is(z.restore(0), 2);
        is(all(z), saved);
        is(z.undoable(), 0);
        fails(S, () -> z.undo());
        z.buy(1, 1);
        is(z.undo(), 0);
        is(all(z), saved);
        is(z.restore(1), 5);
        is(all(z), second);
        z.place(2, 50);
        is(z.restore(1), 5);
        is(all(z), second);
        z.place(2, 50);
        z.save(1);
        z.restore(0);
        z.restore(1);
        is(rowText(z, 2), "[50]");
        ChaseLocker one = base();
        one.save(1);
        fails(S, () -> one.restore(0));
        is(one.restore(1), 0);
    }

    public static void main(String[] args) {
        input();
        errors();
        counts();
        properties();
        looks();
        choices();
        wouldBe();
        turnsAhead();
        texts();
        blocksAndPieces();
        quoins();
        locks();
        turns();
        wayBack();
        if (wrong != 0) {
            System.out.println(wrong + " checks failed");
            System.exit(1);
        }
    }
}
