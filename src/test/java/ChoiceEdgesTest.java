/** The edges of promises 22 to 35: the choice, and what would be, a script for each sentence that names one. */
public final class ChoiceEdgesTest {
    private static void arguments() {
        Script.edge("22: row is 0 to ROWS less 1, what is 0 to 3; no such row comes ahead of what", """
            chase 20 2 5 4 1;rules 0 0 99;wood 2 2;metal 3 1;row 1 7
            choice min 0 = I
            choice -1 0 = I
            choice 0 0 = -1
            choice 1 0 = 2
            choice 2 0 = I
            choice max 0 = I
            choice 1 min = A
            choice 1 -1 = A
            choice 1 1 = 3
            choice 1 2 = 5
            choice 1 3 = 1
            choice 1 4 = A
            choice 1 max = A
            choice -1 -1 = I
            choice 2 4 = I
            """);
        Script.edge("22: NONE if there is no filling, but what is looked at all the same", """
            chase 20 1 5 4 1;rules 0 0 99
            choice 0 0 = -1
            choice 0 1 = -1
            choice 0 2 = -1
            choice 0 3 = -1
            choice 0 4 = A
            choice 0 -1 = A
            """);
        Script.edge("23: row is 0 to ROWS less 1, kind is 0 to the kinds less 1", """
            chase 20 2 5 4 1;rules 0 0 99;wood 2 2;metal 3 1;row 1 7
            chosen min 0 = I
            chosen -1 0 = I
            chosen 1 0 = 1
            chosen 2 0 = I
            chosen max 0 = I
            chosen 1 min = I
            chosen 1 -1 = I
            chosen 1 1 = 1
            chosen 1 2 = I
            chosen 1 max = I
            chosen 2 2 = I
            """);
        Script.edge("23: NONE if there is no filling, 0 of a kind that the choice does not have", """
            chase 20 2 5 4 1;rules 0 0 99;wood 2 2;metal 3 1;row 1 12
            chosen 0 0 = -1
            chosen 0 1 = -1
            chosen 0 2 = I
            chosen 1 0 = 0
            chosen 1 1 = 0
            """);
        Script.edge("24, 25, 28, 30: row is 0 to ROWS less 1", """
            chase 20 2 5 4 1;rules 0 0 99;wood 2 2;row 1 12
            ways min = I
            ways -1 = I
            ways 0 = 0
            ways 1 = 2
            ways 2 = I
            ways max = I
            nearest min = I
            nearest -1 = I
            nearest 0 = 16
            nearest 1 = 4
            nearest 2 = I
            nearest max = I
            missing min = I
            missing -1 = I
            missing 0 = -1
            missing 1 = -1
            missing 2 = I
            missing max = I
            freshChoice min = I
            freshChoice -1 = I
            freshChoice 0 = -1
            freshChoice 1 = 0
            freshChoice 2 = I
            freshChoice max = I
            """);
    }

    private static void fillings() {
        Script.edge("2: of each kind some, not more than are left", """
            chase 20 1 5 0 0;rules 0 0 99;wood 5 4
            writeChoice 0 = "4xw5"
            ways 0 = 1
            chase 20 1 5 0 0;rules 0 0 99;wood 5 3
            writeChoice 0 = "-"
            ways 0 = 0
            buy 0 1
            writeChoice 0 = "4xw5"
            chase 20 1 5 0 0;rules 0 0 99;wood 5 0
            writeChoice 0 = "-"
            """);
        Script.edge("2: with the pieces the gap becomes 0, neither more nor less", """
            chase 20 1 5 0 0;rules 0 0 99;wood 7 2;wood 11 1
            writeChoice 0 = "-"
            place 0 6
            writeChoice 0 = "2xw7"
            lift 0 0
            place 0 5
            writeChoice 0 = "-"
            place 0 4
            writeChoice 0 = "1xw11"
            """);
        Script.edge("2: an opening is 0 to SPAN", """
            chase 20 1 5 4 1;rules 0 0 99;row 0 16
            writeChoice 0 = "-"
            ways 0 = 0
            lift 0 0
            place 0 15
            writeChoice 0 = "q0"
            choice 0 0 = 0
            choice 0 1 = 0
            ways 0 = 1
            lift 0 0
            place 0 11
            writeChoice 0 = "q4"
            choice 0 1 = 4
            ways 0 = 1
            lift 0 0
            place 0 10
            writeChoice 0 = "-"
            ways 0 = 0
            """);
        Script.edge("2: a SPAN of 0 and one of 20", """
            chase 30 1 5 0 1;rules 0 0 99;row 0 25
            writeChoice 0 = "q0"
            lift 0 0
            place 0 24
            writeChoice 0 = "-"
            chase 30 1 5 20 1;rules 0 0 99;row 0 5
            writeChoice 0 = "q20"
            lift 0 0
            place 0 4
            writeChoice 0 = "-"
            """);
        Script.edge("2: if one is left, no filling goes without a quoin", """
            chase 20 1 5 4 1;rules 0 0 99;wood 4 1;row 0 20
            choice 0 0 = -1
            ways 0 = 0
            lift 0 0
            place 0 16
            choice 0 0 = -1
            ways 0 = 0
            """);
        Script.edge("2: if the row has no quoin and none is left, a filling has no opening", """
            chase 20 1 5 4 0;rules 0 0 99;wood 4 1;row 0 20
            choice 0 0 = 0
            choice 0 1 = -1
            choice 0 2 = 0
            choice 0 3 = 0
            ways 0 = 1
            writeChoice 0 = ""
            lift 0 0
            place 0 16
            choice 0 0 = 1
            choice 0 1 = -1
            choice 0 2 = 4
            choice 0 3 = 1
            ways 0 = 1
            lift 0 0
            place 0 15
            choice 0 0 = -1
            """);
        Script.edge("2: the opening is that of the row's quoin, also if none is left; another row's is none of it", """
            chase 20 2 5 0 1;rules 0 0 99;wood 15 1;wood 20 1
            writeChoice 0 = "1xw15 q0"
            writeChoice 1 = "1xw15 q0"
            quoin 1 true
            writeChoice 0 = "1xw20"
            writeChoice 1 = "1xw15 q0"
            quoin 1 false
            writeChoice 0 = "1xw15 q0"
            """);
        Script.edge("2: blocks and pieces that are in the row stay", """
            chase 20 1 5 4 1;rules 0 0 99;wood 3 3;wood 9 1;row 0 6
            writeChoice 0 = "1xw9 q0"
            put 0 0
            writeChoice 0 = "1xw3 q3"
            put 0 0
            writeChoice 0 = "q3"
            put 0 0
            writeChoice 0 = "q0"
            choice 0 2 = 0
            """);
        Script.edge("2: the present opening and take-up of the quoin do not matter", """
            chase 20 1 5 4 1;rules 9 0 999;wood 3 3;row 0 10
            quoin 0 true
            writeChoice 0 = "1xw3 q2"
            ways 0 = 1
            open 0 4
            writeChoice 0 = "1xw3 q2"
            open 0 0
            print 3
            tighten 0 = 0
            row 0 8 = 3
            writeChoice 0 = "1xw3 q2"
            ways 0 = 1
            put 0 0
            writeChoice 0 = "q2"
            """);
    }

    private static void order() {
        Script.edge("2: the filling with the fewest pieces, ahead of the least opening", """
            chase 20 1 5 4 1;rules 0 0 99;wood 5 3;wood 11 1
            writeChoice 0 = "1xw11 q4"
            chase 20 1 5 4 1;rules 0 0 99;wood 5 3;wood 10 1
            writeChoice 0 = "1xw10 1xw5 q0"
            """);
        Script.edge("2: of several the one with the least opening, ahead of the most of the longest kind", """
            chase 20 1 5 4 1;rules 0 0 99;wood 8 1;wood 7 1;wood 10 1;wood 4 1
            writeChoice 0 = "1xw8 1xw7 q0"
            chase 20 1 5 4 1;rules 0 0 99;wood 11 1;wood 12 1;wood 13 1
            writeChoice 0 = "1xw13 q2"
            """);
        Script.edge("2: of several the one with the most pieces of the longest kind", """
            chase 25 1 5 0 1;rules 0 0 99;wood 10 2;wood 12 1;wood 8 1
            writeChoice 0 = "1xw12 1xw8 q0"
            chase 24 1 5 0 0;rules 0 0 99;wood 8 3;wood 7 2;wood 10 2;wood 4 1
            writeChoice 0 = "2xw10 1xw4"
            """);
        Script.edge("2: of several with the most of the next longest kind, and so on", """
            chase 19 1 5 0 0;rules 0 0 99;wood 5 2;wood 4 1;wood 6 1;wood 9 1
            writeChoice 0 = "1xw9 1xw6 1xw4"
            chase 21 1 5 0 0;rules 0 0 99;wood 1 1;wood 2 1;wood 3 1;wood 4 1;wood 7 1;wood 9 1
            writeChoice 0 = "1xw9 1xw7 1xw4 1xw1"
            """);
        Script.edge("2: of two kinds of the same length metal comes ahead of wood, whatever their numbers", """
            chase 14 1 5 0 0;rules 0 0 99;wood 7 2;metal 7 1
            writeChoice 0 = "1xm7 1xw7"
            chosen 0 0 = 1
            chosen 0 1 = 1
            chase 14 1 5 0 0;rules 0 0 99;wood 7 2;metal 7 2
            writeChoice 0 = "2xm7"
            chase 14 1 5 0 0;rules 0 0 99;metal 7 2;wood 7 2
            writeChoice 0 = "2xm7"
            chase 14 1 5 0 0;rules 0 0 99;metal 6 1;wood 7 2;metal 8 1
            writeChoice 0 = "1xm8 1xm6"
            """);
        Script.edge("2: the longest kind first would need more pieces, or would not do at all", """
            chase 12 1 5 0 0;rules 0 0 99;wood 9 1;wood 1 9;metal 6 2
            writeChoice 0 = "2xm6"
            chase 12 1 5 0 0;rules 0 0 99;wood 9 1;metal 6 2;metal 4 3
            writeChoice 0 = "2xm6"
            """);
        Script.edge("22: the choice of all pieces that are left, of ten kinds", """
            chase 484 3 5 0 0;rules 0 0 99;wood 1 99;metal 1 99;wood 2 50;metal 2 50;wood 3 5;metal 3 5;\
            wood 4 5;metal 4 5;wood 5 1;metal 5 2;row 1 1;row 2 4
            choice 0 0 = -1
            choice 1 0 = 321
            choice 1 2 = 483
            choice 1 3 = 160
            ways 1 = 1
            choice 2 0 = 318
            choice 2 2 = 480
            choice 2 3 = 157
            chosen 2 0 = 96
            chosen 2 1 = 99
            chosen 2 9 = 2
            """);
    }

    private static void longest() {
        Script.edge("1.1, 2: at the greatest LONG nothing fills a row, or just so many pieces do", """
            chase 500 1 5 20 0;rules 0 0 99
            choice 0 0 = -1
            ways 0 = 0
            fillable 500 = 1
            nearest 0 = 500
            missing 0 = -1
            chase 500 1 5 20 0;rules 0 0 99;wood 50 9;metal 50 1;wood 25 0
            writeChoice 0 = "1xm50 9xw50"
            ways 0 = 1
            nearest 0 = 0
            put 0 1
            put 0 1 = A
            choice 0 0 = 9
            missing 0 = -1
            take 0 0
            place 0 25
            missing 0 = 2
            chase 500 1 5 20 0;rules 0 0 99;wood 5 99;metal 5 99
            ways 0 = 99
            writeChoice 0 = "99xm5 1xw5"
            """);
        Script.edge("1.1, 2: at the least LONG", """
            chase 10 1 10 20 1;rules 0 0 99;wood 10 1
            writeChoice 0 = "q0"
            ways 0 = 1
            chase 10 1 11 20 1;rules 0 0 99;wood 10 1
            writeChoice 0 = "-"
            ways 0 = 0
            chase 10 1 11 20 0;rules 0 0 99;wood 10 1
            writeChoice 0 = "1xw10"
            ways 0 = 1
            """);
    }

    /** Each call that looks at the stock is the first one that does so, behind a load and behind a change. */
    private static void first() {
        String chase = "chase 20 1 5 4 1;rules 0 0 99;wood 7 0;wood 15 1;row 0 1\n";
        String[] calls = {"choice 0 0 = -1", "chosen 0 0 = -1", "ways 0 = 0", "nearest 0 = 4", "fewestAt 0 7 = -1",
            "rowFor 7 = -1", "missing 0 = -1", "freshChoice 0 = -1", "fillable 20 = 2", "lockable = 0", "lockedAll = 0",
            "writeChoice 0 = \"-\"", "lock 0 = A", "relock 0 = A"};
        String[] then = {"choice 0 0 = 2", "chosen 0 0 = 2", "ways 0 = 1", "nearest 0 = 4", "fewestAt 0 7 = 1",
            "rowFor 7 = 0", "missing 0 = -1", "freshChoice 0 = 2", "fillable 20 = 4", "lockable = 1", "lockedAll = 1",
            "writeChoice 0 = \"2xw7 q0\"", "lock 0 = 2", "relock 0 = 2"};
        for (int i = 0; i < calls.length; i++) {
            Script.edge("2: of the pieces that are left when it is called", chase + calls[i]);
            Script.edge("2: of the pieces that are left when it is called", chase + "buy 0 2\n" + then[i]);
            Script.edge("2: of the pieces that are left when it is called",
                chase + calls[i] + "\nbuy 0 2\n" + then[i] + (then[i].contains("lock ") ? "" : "\nundo\n" + calls[i]));
        }
    }

    private static void ways() {
        Script.edge("24: two with other numbers of pieces of some kind, or with another opening, are different", """
            chase 10 1 5 4 0;rules 0 0 99;wood 5 1
            ways 0 = 0
            buy 0 1
            ways 0 = 1
            chase 10 1 5 4 0;rules 0 0 99;wood 5 2;metal 5 1
            ways 0 = 2
            chase 10 1 5 4 0;rules 0 0 99;wood 5 2;metal 5 2
            ways 0 = 3
            chase 10 1 5 4 1;rules 0 0 99;wood 1 9
            ways 0 = 5
            chase 10 1 5 5 1;rules 0 0 99;wood 1 9
            ways 0 = 6
            chase 10 1 5 5 1;rules 0 0 99;wood 1 3
            ways 0 = 4
            chase 10 1 5 20 1;rules 0 0 99;wood 1 9
            ways 0 = 6
            """);
        Script.edge("24: modulo 1000003, of 1000002 fillings", """
            chase 170 1 8 20 1;rules 0 0 99;metal 23 24;wood 16 48;metal 17 68;wood 9 84;wood 11 58;metal 27 73;\
            wood 3 67;wood 28 94;metal 4 89;wood 15 11
            ways 0 = 1000002
            """);
        Script.edge("24: modulo 1000003, of 1000003 fillings", """
            chase 250 1 8 5 1;rules 0 0 99;metal 6 81;metal 15 5;wood 18 78;wood 3 44;metal 16 53;metal 26 6;\
            wood 30 83;metal 25 16;wood 19 6;metal 22 64
            ways 0 = 0
            missing 0 = -1
            lockable = 1
            """);
        Script.edge("24: modulo 1000003, of 2000005 and of 2000007 fillings", """
            chase 380 1 15 14 1;rules 0 0 99;metal 13 44;wood 27 91;metal 8 15;wood 10 42;metal 26 82;\
            wood 29 24;wood 21 55;wood 8 86
            ways 0 = 1000002
            chase 217 1 1 6 1;rules 0 0 99;metal 1 94;wood 16 96;metal 19 47;wood 25 94;metal 18 78;metal 2 42;\
            wood 30 31;wood 22 4;wood 19 15
            ways 0 = 1
            """);
    }

    private static void nearest() {
        Script.edge("25: the least gap with pieces that are left; no quoin is put in", """
            chase 50 1 5 4 2;rules 2 3 40;wood 10 3
            nearest 0 = 20
            buy 0 1 = 4
            nearest 0 = 10
            buy 0 1 = 5
            nearest 0 = 0
            buy 0 1 = 6
            nearest 0 = 0
            place 0 1
            nearest 0 = 9
            put 0 0
            nearest 0 = 9
            """);
        Script.edge("25: the quoin of the row gets any opening, with the take-up 0", """
            chase 50 1 5 4 2;rules 9 3 999;wood 10 4
            quoin 0 true = 45
            nearest 0 = 1
            open 0 4 = 41
            nearest 0 = 1
            place 0 1 = 40
            nearest 0 = 0
            open 0 0
            print 1
            tighten 0 = 0
            row 0 8 = 1
            nearest 0 = 0
            lift 0 0
            place 0 5 = 40
            nearest 0 = 0
            place 0 1 = 39
            nearest 0 = 5
            chase 50 1 5 5 2;rules 9 3 999;wood 10 4
            quoin 0 true = 45
            nearest 0 = 0
            chase 50 1 5 0 2;rules 9 3 999;wood 10 4
            quoin 0 true = 45
            nearest 0 = 5
            """);
        Script.edge("25: no piece at all is left, or none goes in, or the row is full", """
            chase 20 1 5 4 1;rules 0 0 99
            nearest 0 = 20
            quoin 0 true
            nearest 0 = 11
            chase 20 1 5 4 1;rules 0 0 99;wood 21 9
            nearest 0 = 20
            chase 20 1 5 4 1;rules 0 0 99;wood 1 1
            nearest 0 = 19
            chase 20 1 5 4 1;rules 0 0 99;wood 20 1
            nearest 0 = 0
            chase 20 1 5 4 1;rules 0 0 99;wood 1 9;row 0 20
            nearest 0 = 0
            chase 20 1 5 4 1;rules 0 0 99;wood 1 9;row 0 15
            quoin 0 true = 0
            nearest 0 = 0
            """);
        Script.edge("25: the longest piece first would not be nearest", """
            chase 20 1 5 4 1;rules 0 0 99;wood 17 1;wood 10 2
            nearest 0 = 0
            chase 20 1 5 4 1;rules 0 0 99;wood 17 1;wood 9 2
            nearest 0 = 2
            """);
    }

    private static void oneMoreBlock() {
        Script.edge("26: row is 0 to ROWS less 1, length is 1 to 200; no such row comes ahead of length", """
            chase 500 2 5 4 1;rules 0 0 99;wood 98 5;row 1 200 99
            fewestAt min 1 = I
            fewestAt -1 1 = I
            fewestAt 2 1 = I
            fewestAt max 1 = I
            fewestAt -1 0 = I
            fewestAt 2 201 = I
            fewestAt 1 min = A
            fewestAt 1 -1 = A
            fewestAt 1 0 = A
            fewestAt 1 1 = -1
            fewestAt 1 96 = 1
            fewestAt 1 195 = 0
            fewestAt 1 200 = -1
            fewestAt 1 201 = A
            fewestAt 1 max = A
            fewestAt 0 99 = 4
            fewestAt 0 200 = 3
            fewestAt 0 0 = A
            fewestAt 0 201 = A
            """);
        Script.edge("26: NONE if the block does not go in: longer than the gap", """
            chase 20 1 5 4 0;rules 0 0 99;row 0 8
            fewestAt 0 11 = -1
            fewestAt 0 12 = 0
            fewestAt 0 13 = -1
            """);
        Script.edge("26: NONE if the block does not go in: it would be the seventh", """
            chase 20 1 5 4 0;rules 0 0 99;row 0 1 1 1 1 1 1
            fewestAt 0 14 = -1
            lift 0 5
            fewestAt 0 15 = 0
            place 0 1
            fewestAt 0 14 = -1
            """);
        Script.edge("26: NONE if the block does not go in: place() would refuse it at the present opening", """
            chase 20 1 5 4 1;rules 0 0 99;row 0 5
            fewestAt 0 10 = 0
            quoin 0 true = 10
            fewestAt 0 10 = 0
            open 0 1 = 9
            fewestAt 0 10 = -1
            place 0 10 = A
            fewestAt 0 9 = 0
            """);
        Script.edge("26: NONE if there was no filling then", """
            chase 20 1 5 4 1;rules 0 0 99;wood 7 1
            fewestAt 0 15 = 0
            fewestAt 0 16 = -1
            fewestAt 0 11 = 0
            fewestAt 0 10 = -1
            fewestAt 0 9 = -1
            fewestAt 0 8 = 1
            fewestAt 0 4 = 1
            fewestAt 0 3 = -1
            """);
        Script.edge("27: length is 1 to 200", """
            chase 500 1 5 4 0;rules 0 0 99;row 0 200 100
            rowFor min = A
            rowFor -1 = A
            rowFor 0 = A
            rowFor 1 = -1
            rowFor 200 = 0
            rowFor 201 = A
            rowFor max = A
            lift 0 1
            place 0 200
            place 0 99
            rowFor 1 = 0
            """);
        Script.edge("27: the row for which fewestAt() is least, of several the smallest number", """
            chase 20 4 5 4 1;rules 0 0 99;wood 2 9;row 0 1;row 1 6;row 2 6;row 3 1
            fewestAt 0 9 = 1
            fewestAt 1 9 = 0
            fewestAt 2 9 = 0
            rowFor 9 = 1
            fewestAt 0 14 = 0
            fewestAt 1 14 = -1
            fewestAt 3 14 = 0
            rowFor 14 = 0
            fewestAt 1 1 = 2
            fewestAt 0 1 = 5
            """);
        Script.edge("27: NONE if there is none: fewestAt() of all rows is NONE", """
            chase 20 3 5 4 1;rules 0 0 99;row 0 20;row 1 1 1 1 1 1 1;row 2 10
            rowFor 1 = 2
            rowFor 5 = 2
            rowFor 6 = -1
            rowFor 9 = -1
            rowFor 200 = -1
            """);
        Script.edge("27: the last row alone", """
            chase 20 8 5 4 0;rules 0 0 99;row 7 10
            rowFor 10 = 7
            rowFor 20 = 0
            rowFor 9 = -1
            """);
    }

    private static void oneMorePiece() {
        Script.edge("28: NONE if there is a filling, or no kind gives one", """
            chase 15 1 5 1 0;rules 0 0 99;wood 5 3
            missing 0 = -1
            chase 15 1 5 1 0;rules 0 0 99;wood 5 2
            missing 0 = 0
            chase 15 1 5 1 0;rules 0 0 99;wood 5 1
            missing 0 = -1
            chase 15 1 5 1 0;rules 0 0 99
            missing 0 = -1
            chase 15 1 5 1 0;rules 0 0 99;row 0 15
            missing 0 = -1
            """);
        Script.edge("28: of several the one with the greatest length, of several metal", """
            chase 15 1 5 1 0;rules 0 0 99;metal 3 4;wood 5 2;wood 3 0
            missing 0 = 1
            chase 15 1 5 1 0;rules 0 0 99;metal 3 4;wood 3 0;wood 4 1
            missing 0 = 0
            chase 15 1 5 1 0;rules 0 0 99;wood 3 0;metal 3 4;wood 4 1
            missing 0 = 1
            chase 15 1 5 1 0;rules 0 0 99;wood 5 2;metal 5 0;metal 3 4
            missing 0 = 1
            chase 15 1 5 1 0;rules 0 0 99;metal 5 0;wood 5 2;metal 3 4
            missing 0 = 0
            chase 15 1 5 1 0;rules 0 0 99;wood 3 4;wood 16 1
            missing 0 = 0
            """);
        Script.edge("28: one more piece of one kind, not one of each of two", """
            chase 15 1 5 1 0;rules 0 0 99;wood 7 0;wood 8 0
            missing 0 = -1
            buy 0 1
            missing 0 = 1
            undo
            buy 1 1
            missing 0 = 0
            """);
        Script.edge("28: one more of a kind of which none, or 99, are left", """
            chase 20 1 5 1 0;rules 0 0 99;wood 20 0
            missing 0 = 0
            chase 100 1 5 1 0;rules 0 0 99;wood 1 99
            missing 0 = 0
            chase 101 1 5 1 0;rules 0 0 99;wood 1 99
            missing 0 = -1
            """);
        Script.edge("28: one more piece together with an opening", """
            chase 20 1 5 4 1;rules 0 0 99;wood 10 0;wood 11 0;wood 15 0;wood 16 0
            missing 0 = 2
            place 0 5
            missing 0 = 0
            place 0 1
            missing 0 = -1
            """);
        Script.edge("28: of the last of ten kinds", """
            chase 99 1 5 1 0;rules 0 0 99;wood 98 1;wood 97 1;wood 96 1;wood 95 1;wood 94 1;wood 93 1;wood 92 1;\
            wood 91 1;wood 90 1;metal 10 0
            missing 0 = -1
            place 0 79
            missing 0 = -1
            place 0 10
            missing 0 = 9
            """);
        Script.edge("29: row is 0 to ROWS less 1, kind is 0 to the kinds less 1", """
            chase 20 2 5 1 1;rules 0 0 99;metal 5 1;wood 6 2
            canPut min 0 = I
            canPut -1 0 = I
            canPut 0 0 = true
            canPut 1 1 = true
            canPut 2 0 = I
            canPut max 0 = I
            canPut 0 min = I
            canPut 0 -1 = I
            canPut 0 2 = I
            canPut 0 max = I
            canPut 2 2 = I
            """);
        Script.edge("29: a piece goes in if one is left and the gap is not less than its length", """
            chase 20 1 5 1 1;rules 0 0 99;metal 5 1;wood 6 2;wood 1 0
            canPut 0 2 = false
            put 0 2 = A
            quoin 0 true = 15
            place 0 9 = 6
            canPut 0 0 = true
            canPut 0 1 = true
            open 0 1 = 5
            canPut 0 0 = true
            canPut 0 1 = false
            put 0 1 = A
            put 0 0 = 0
            canPut 0 0 = false
            take 0 0
            lift 0 0
            put 0 0
            canPut 0 0 = false
            put 0 0 = A
            """);
    }

    private static void fresh() {
        Script.edge("30: with all of its pieces and its quoin back in the stock", """
            chase 20 2 5 2 1;rules 0 0 99;wood 2 4;metal 6 1;row 0 8
            freshChoice 0 = 1
            put 0 0
            put 0 1
            choice 0 0 = -1
            freshChoice 0 = 1
            take 0 0
            quoin 0 true
            freshChoice 0 = 1
            take 0 0
            put 1 1
            freshChoice 0 = 3
            freshChoice 1 = -1
            put 1 0
            put 1 0
            freshChoice 0 = -1
            """);
        Script.edge("30: a quoin of the row itself is back, that of another row is not", """
            chase 20 2 5 0 1;rules 0 0 99;wood 15 1;wood 20 1;row 1 15
            quoin 0 true
            freshChoice 0 = 1
            freshChoice 1 = -1
            quoin 0 false
            freshChoice 1 = 0
            """);
        Script.edge("31: the greatest length is 0 to LONG", """
            chase 20 1 5 2 1;rules 0 0 99;wood 3 2;metal 5 1
            fillable min = A
            fillable -1 = A
            fillable 0 = 1
            fillable 20 = 6
            fillable 21 = A
            fillable max = A
            chase 500 1 5 2 1;rules 0 0 99;wood 5 99;metal 5 99
            fillable 500 = 101
            fillable 499 = 100
            fillable 501 = A
            """);
        Script.edge("31: lengths from 0 (by none) to the greatest one, just of pieces that are left", """
            chase 20 1 5 2 1;rules 0 0 99;wood 3 2;metal 5 1
            fillable 2 = 1
            fillable 3 = 2
            fillable 4 = 2
            fillable 5 = 3
            fillable 6 = 4
            fillable 7 = 4
            fillable 8 = 5
            fillable 10 = 5
            fillable 11 = 6
            put 0 1
            fillable 20 = 3
            put 0 0
            put 0 0
            fillable 20 = 1
            """);
    }

    private static void ahead() {
        Script.edge("32: row is 0 to ROWS less 1", """
            chase 20 2 5 4 2;rules 2 3 40;row 1 20
            fallsIn min true = I
            fallsIn -1 true = I
            fallsIn -1 false = I
            fallsIn 0 false = -1
            fallsIn 1 false = 21
            fallsIn 2 true = I
            fallsIn 2 false = I
            fallsIn max false = I
            """);
        Script.edge("32: NONE if it does not fall within 200 impressions", """
            chase 10 1 5 4 2;rules 1 1 199;row 0 10
            fallsIn 0 false = 200
            fallsIn 0 true = -1
            print 1
            fallsIn 0 false = 199
            chase 10 1 5 4 2;rules 1 1 200;row 0 10
            fallsIn 0 false = -1
            print 1
            fallsIn 0 false = 200
            chase 10 1 5 4 2;rules 0 1 1;row 0 10
            fallsIn 0 false = -1
            """);
        Script.edge("32: NONE if it does not fall within 200 days", """
            chase 10 1 5 4 2;rules 1 1 199;wood 1 5;metal 1 5;row 0 9
            put 0 0 = 0
            fallsIn 0 true = 200
            rest 1
            fallsIn 0 true = 199
            chase 10 1 5 4 2;rules 1 1 200;wood 1 5;metal 1 5;row 0 9
            put 0 0 = 0
            fallsIn 0 true = -1
            rest 1
            fallsIn 0 true = 200
            take 0 0
            put 0 1 = 0
            fallsIn 0 true = -1
            chase 10 1 5 4 2;rules 1 0 1;wood 1 5;row 0 9
            put 0 0 = 0
            fallsIn 0 true = -1
            """);
        Script.edge("32: it falls if slack plus 10 times its gap is greater than HOLD", """
            chase 20 1 5 4 2;rules 5 1 40;row 0 19
            fallsIn 0 false = 7
            print 6
            row 0 5 = 30
            row 0 0 = 1
            fallsIn 0 false = 1
            print 1
            row 0 0 = 0
            fallsIn 0 false = -1
            """);
        Script.edge("32: at least 1, also if the row hangs loose already", """
            chase 20 1 5 4 2;rules 0 0 40;row 0 16
            fallsIn 0 false = -1
            fallsIn 0 true = -1
            lift 0 0
            place 0 15
            fallsIn 0 false = 1
            fallsIn 0 true = 1
            """);
        Script.edge("32: NONE for a row without blocks, which does not fall", """
            chase 20 1 5 4 2;rules 9 9 1;wood 5 4
            put 0 0
            rest 100 = 0
            row 0 5 = 900
            fallsIn 0 true = -1
            fallsIn 0 false = -1
            place 0 1
            fallsIn 0 true = 1
            fallsIn 0 false = 1
            """);
        Script.edge("33: impressions is 0 to 200", """
            chase 20 1 5 4 2;rules 0 3 1;row 0 20
            goodIn min = A
            goodIn -1 = A
            goodIn 0 = 0
            goodIn 1 = 1
            goodIn 200 = 200
            goodIn 201 = A
            goodIn max = A
            """);
        Script.edge("33: as print() would have it", """
            chase 10 1 5 4 2;rules 1 1 99;row 0 10
            goodIn 8 = 8
            goodIn 9 = 9
            goodIn 10 = 9
            goodIn 99 = 9
            goodIn 100 = 9
            goodIn 101 = 10
            goodIn 200 = 109
            print 100 = 9
            row 0 0 = 0
            goodIn 0 = 0
            goodIn 200 = 200
            print 1 = 1
            """);
    }

    private static void sets() {
        Script.edge("34: no row, the first, the last, all eight", """
            chase 11 8 10 0 1;rules 0 0 9
            lockable = 0
            place 7 1
            lockable = 128
            place 0 1
            lockable = 129
            place 3 1
            lockable = 137
            chase 10 8 10 0 1;rules 0 0 9
            lockable = 255
            chase 10 1 10 0 1;rules 0 0 9
            lockable = 1
            """);
        Script.edge("34: each by itself, though one quoin and one piece are left", """
            chase 20 3 5 4 1;rules 0 0 9;wood 6 1;row 0 9;row 1 4;row 2 8
            lockable = 5
            lock 0
            lockable = 1
            """);
        Script.edge("35: nothing can be locked and no row is tight; all eight can", """
            chase 11 8 10 0 8;rules 0 0 9
            lockedAll = 0
            chase 10 8 10 0 8;rules 0 0 9
            lockedAll = 8
            chase 10 8 10 0 7;rules 0 0 9
            lockedAll = 7
            count 5 = 0
            """);
        Script.edge("35: by number: what a row takes is not left for the next", """
            chase 20 2 5 4 2;rules 0 0 9;wood 6 1;row 0 9;row 1 9
            lockedAll = 1
            buy 0 1
            lockedAll = 2
            chase 20 2 5 4 1;rules 0 0 9;wood 6 2;row 0 9;row 1 9
            lockedAll = 1
            """);
        Script.edge("35: also those that could not be locked, but are tight as they are", """
            chase 20 2 5 4 1;rules 1 0 99;row 0 20;row 1 19
            lockable = 0
            lockedAll = 1
            print 1
            lockedAll = 0
            """);
        Script.edge("35: a row with slack is tight if it can be locked", """
            chase 20 1 5 4 1;rules 5 0 99;row 0 15
            lock 0
            print 1
            isTight 0 = false
            lockedAll = 1
            quoin 0 false
            lockedAll = 1
            chase 20 1 5 4 0;rules 5 0 99;row 0 20
            print 1
            lockedAll = 1
            """);
    }

    public static void main(String[] args) {
        arguments();
        fillings();
        order();
        longest();
        first();
        ways();
        nearest();
        oneMoreBlock();
        oneMorePiece();
        fresh();
        ahead();
        sets();
        Script.end();
    }
}
