/** The edges of promises 7 to 21: counts, properties and looks, a script for each sentence that names one. */
public final class RowsEdgesTest {
    private static void counts() {
        Script.edge("7: what is 0 to 11", """
            chase 50 3 5 4 2;rules 2 3 40;wood 10 3;metal 10 1;wood 3 4;row 0 20;row 1 30 12
            count min = A
            count -1 = A
            count 0 = 3
            count 11 = 8
            count 12 = A
            count max = A
            """);
        Script.edge("7: the counts of a chase in which nothing is", """
            chase 10 1 1 0 0;rules 0 0 1
            count 0 = 1
            count 1 = 0
            count 2 = 0
            count 3 = 0
            count 4 = 0
            count 5 = 0
            count 6 = 0
            count 7 = 0
            count 8 = 0
            count 9 = 0
            count 10 = 0
            count 11 = 0
            """);
        Script.edge("7: the counts of a chase of eight rows, all of them full", """
            chase 12 8 2 0 8;rules 0 0 1;wood 4 8;row 0 1 1 1 1 1 1;row 1 1 1 1 1 1 1;row 2 6;row 3 6;row 4 6;\
            row 5 6;row 6 6;row 7 6
            count 0 = 8
            count 2 = 8
            count 3 = 18
            count 11 = 8
            lock 0
            lock 1
            lock 2
            lock 3
            lock 4
            lock 5
            lock 6
            count 5 = 7
            lock 7
            count 2 = 0
            count 3 = 18
            count 4 = 8
            count 5 = 8
            count 11 = 0
            """);
        Script.edge("7: blocks in all rows, pieces in all rows: the last goes out", """
            chase 50 2 5 4 2;rules 2 3 40;wood 10 3;row 1 7
            count 3 = 1
            count 4 = 0
            put 1 0
            count 4 = 1
            count 11 = 2
            take 1 0
            lift 1 0
            count 3 = 0
            count 4 = 0
            count 11 = 3
            """);
        Script.edge("7: 6 to 10 since the load; undo brings them back, too", """
            chase 20 1 5 4 1;rules 9 0 40;row 0 8 7
            print 1 = 0
            print 2 = 2
            rest 3 = 0
            count 6 = 3
            count 7 = 2
            count 8 = 3
            count 9 = 2
            count 10 = 1
            undo = 2
            count 8 = 0
            undo = 1
            count 6 = 1
            count 7 = 0
            undo = 0
            count 6 = 0
            count 9 = 0
            count 10 = 0
            """);
        Script.edge("7: 6 to 10 since the load; restore brings them back, too", """
            chase 20 1 5 4 1;rules 9 0 40;row 0 8 7
            save 0 = 0
            print 1 = 0
            print 2 = 2
            rest 3 = 0
            save 1 = 3
            restore 0 = 0
            count 6 = 0
            count 7 = 0
            count 8 = 0
            count 9 = 0
            count 10 = 0
            restore 1 = 3
            count 6 = 3
            count 7 = 2
            count 8 = 3
            count 9 = 2
            count 10 = 1
            """);
        Script.edge("8: what is 0 to 5", """
            chase 50 3 5 4 2;rules 2 3 40
            setting min = A
            setting -1 = A
            setting 0 = 50
            setting 1 = 5
            setting 2 = 4
            setting 3 = 2
            setting 4 = 3
            setting 5 = 40
            setting 6 = A
            setting max = A
            """);
    }

    private static void properties() {
        Script.edge("9: row is 0 to ROWS less 1, what is 0 to 8; no such row comes ahead of what", """
            chase 50 3 5 4 2;rules 2 3 40
            row -1 0 = I
            row min 0 = I
            row 0 0 = 0
            row 2 0 = 0
            row 3 0 = I
            row max 0 = I
            row 2 min = A
            row 2 -1 = A
            row 2 8 = -1
            row 2 9 = A
            row 2 max = A
            row -1 -1 = I
            row 3 9 = I
            """);
        Script.edge("9: opening and take-up are NONE without a quoin, and 0 of one that was just put in", """
            chase 50 1 5 4 2;rules 2 3 40
            row 0 4 = -1
            row 0 8 = -1
            quoin 0 true = 45
            row 0 4 = 0
            row 0 8 = 0
            quoin 0 false = 50
            row 0 4 = -1
            row 0 8 = -1
            """);
        Script.edge("9: a row in which nothing is has the length 0 and the gap LONG", """
            chase 500 1 5 4 2;rules 2 3 40
            row 0 0 = 0
            row 0 1 = 0
            row 0 2 = 0
            row 0 3 = 500
            row 0 5 = 0
            row 0 6 = 0
            row 0 7 = 0
            """);
        Script.edge("1.1: the length of a row is the sum of its blocks, its pieces and its quoin with its opening"
            + " less its take-up; its gap is LONG less that", """
            chase 50 1 5 4 2;rules 9 3 999;wood 10 3;metal 4 2;row 0 7 2
            row 0 2 = 9
            row 0 3 = 41
            put 0 0
            put 0 1
            row 0 2 = 23
            quoin 0 true
            row 0 2 = 28
            open 0 1
            row 0 2 = 29
            row 0 3 = 21
            print 1
            tighten 0 = 0
            row 0 4 = 3
            row 0 8 = 2
            row 0 2 = 29
            row 0 3 = 21
            row 0 6 = 1
            row 0 7 = 9
            """);
        Script.edge("9: a full row has the length LONG and the gap 0", """
            chase 50 1 5 4 2;rules 2 3 40;row 0 40
            quoin 0 true = 5
            open 0 4 = 1
            place 0 1 = 0
            row 0 2 = 50
            row 0 3 = 0
            """);
        Script.edge("10: the index is from 0 to the blocks less 1, the row 0 to ROWS less 1", """
            chase 50 2 5 4 2;rules 2 3 40;row 1 1 2 3 4 5 6
            block 1 min = I
            block 1 -1 = I
            block 1 0 = 1
            block 1 5 = 6
            block 1 6 = I
            block 1 max = I
            block 0 0 = I
            block -1 0 = I
            block 2 0 = I
            lift 1 5 = 6
            block 1 4 = 5
            block 1 5 = I
            """);
        Script.edge("10: there is no block where they were pied", """
            chase 50 1 5 4 2;rules 2 3 40;row 0 40
            block 0 0 = 40
            print 1 = 0
            block 0 0 = I
            """);
        Script.edge("11: the index is from 0 to the pieces less 1, the row 0 to ROWS less 1", """
            chase 50 2 5 4 2;rules 2 3 40;wood 3 9;metal 3 9
            piece 1 0 = I
            put 1 1
            put 1 0
            piece 1 min = I
            piece 1 -1 = I
            piece 1 0 = 1
            piece 1 1 = 0
            piece 1 2 = I
            piece 1 max = I
            piece 0 0 = I
            piece -1 0 = I
            piece 2 0 = I
            """);
        Script.edge("11: the pieces are in the order in which they were put in, also when one goes out", """
            chase 90 1 5 4 2;rules 2 3 40;wood 3 9;metal 3 9;wood 2 9
            put 0 2
            put 0 0
            put 0 1
            put 0 0
            take 0 1 = 0
            writeRow 0 = "w2 m3 w3"
            take 0 0 = 2
            put 0 2
            writeRow 0 = "m3 w3 w2"
            take 0 2 = 2
            writeRow 0 = "m3 w3"
            """);
        Script.edge("11: in the order in which they were put in, of forty pieces of which two go out", """
            chase 500 1 5 4 2;rules 2 3 40;wood 3 99;metal 3 99
            9 times put 0 0
            9 times put 0 1
            14 times put 0 0
            8 times put 0 1
            writeRow 0 = 119
            piece 0 0 = 0
            piece 0 8 = 0
            piece 0 9 = 1
            piece 0 15 = 1
            piece 0 16 = 1
            piece 0 17 = 1
            piece 0 18 = 0
            piece 0 31 = 0
            piece 0 32 = 1
            piece 0 39 = 1
            take 0 0 = 0
            piece 0 7 = 0
            piece 0 8 = 1
            piece 0 16 = 1
            piece 0 17 = 0
            piece 0 30 = 0
            piece 0 31 = 1
            take 0 16 = 1
            piece 0 15 = 1
            piece 0 16 = 0
            piece 0 29 = 0
            piece 0 30 = 1
            piece 0 37 = 1
            piece 0 38 = I
            """);
        Script.edge("1.1: a row has any number of pieces: 500 of the length 1", """
            chase 500 1 1 0 0;rules 0 0 999;wood 1 99;metal 1 99;row 0 200 102
            lock 0 = 198
            lift 0 0 = 200
            lift 0 0 = 102
            buy 0 99 = 99
            buy 1 99 = 99
            place 0 104 = 198
            lock 0 = 198
            lift 0 0 = 104
            buy 0 99 = 99
            buy 1 99 = 99
            lock 0 = 104
            row 0 1 = 500
            row 0 2 = 500
            row 0 3 = 0
            row 0 6 = 203
            piece 0 0 = 1
            piece 0 98 = 1
            piece 0 99 = 0
            piece 0 494 = 1
            piece 0 495 = 0
            piece 0 499 = 0
            piece 0 500 = I
            canPut 0 0 = false
            put 0 0 = A
            writeRow 0 = 1499
            textByte 0 = 109
            textByte 1498 = 49
            textByte 1499 = I
            take 0 499 = 0
            put 0 1 = A
            put 0 0 = 0
            piece 0 499 = 0
            take 0 0 = 1
            piece 0 498 = 0
            piece 0 499 = I
            unlock 0 = 499
            kind 0 2 = 297
            kind 1 2 = 297
            """);
    }

    private static void kinds() {
        Script.edge("12: kind is 0 to the kinds less 1, what is 0 to 3; no such kind comes ahead of what", """
            chase 50 3 5 4 2;rules 2 3 40;wood 10 3;metal 7 1
            kind min 0 = I
            kind -1 0 = I
            kind 0 0 = 0
            kind 1 0 = 1
            kind 2 0 = I
            kind max 0 = I
            kind 1 min = A
            kind 1 -1 = A
            kind 1 1 = 7
            kind 1 3 = 0
            kind 1 4 = A
            kind 1 max = A
            kind -1 -1 = I
            kind 2 4 = I
            """);
        Script.edge("12: there is no kind in a chase without any", """
            chase 50 3 5 4 2;rules 2 3 40
            kind 0 0 = I
            kind -1 0 = I
            """);
        Script.edge("12: ten kinds, numbered from 0", """
            chase 50 1 5 4 2;rules 2 3 40;wood 1 0;wood 2 1;wood 3 1;wood 4 1;wood 5 1;metal 1 1;metal 2 1;\
            metal 3 1;metal 4 1;metal 99 99
            kind 0 0 = 0
            kind 0 2 = 0
            kind 9 0 = 1
            kind 9 1 = 99
            kind 9 2 = 99
            kind 10 0 = I
            """);
        Script.edge("12: how many are left, how many are in rows: in all of them, up to all", """
            chase 50 2 5 4 2;rules 2 3 40;wood 10 2;metal 10 2
            kind 0 2 = 2
            kind 0 3 = 0
            put 0 0
            put 1 0
            kind 0 2 = 0
            kind 0 3 = 2
            kind 1 2 = 2
            kind 1 3 = 0
            """);
        Script.edge("13: any number; NONE if there is no such kind", """
            chase 50 1 5 4 2;rules 2 3 40;wood 1 0;metal 99 0;wood 99 1;wood 98 1
            kindOf false 1 = 0
            kindOf true 1 = -1
            kindOf true 99 = 1
            kindOf false 99 = 2
            kindOf false 98 = 3
            kindOf true 98 = -1
            kindOf false 0 = -1
            kindOf false -1 = -1
            kindOf true -1 = -1
            kindOf true 100 = -1
            kindOf true min = -1
            kindOf false max = -1
            """);
        Script.edge("13: NONE in a chase without kinds", """
            chase 50 1 5 4 2;rules 2 3 40
            kindOf false 0 = -1
            kindOf true 1 = -1
            """);
        Script.edge("14: a row is tight if its gap and its slack are 0", """
            chase 20 3 5 4 2;rules 1 3 999;wood 10 2;row 0 20;row 1 19
            isTight 0 = true
            isTight 1 = false
            isTight 2 = false
            place 1 1 = 0
            isTight 1 = true
            print 1 = 1
            isTight 0 = false
            put 2 0
            isTight 2 = false
            put 2 0
            isTight 2 = true
            rest 1
            isTight 2 = false
            """);
        Script.edge("14: row is 0 to ROWS less 1", """
            chase 20 2 5 4 2;rules 1 3 999;row 1 20
            isTight min = I
            isTight -1 = I
            isTight 0 = false
            isTight 1 = true
            isTight 2 = I
            isTight max = I
            """);
    }

    private static void looks() {
        Script.edge("15: the row with the greatest gap, of several the smallest number", """
            chase 20 4 5 4 2;rules 1 3 999;row 1 7;row 2 6;row 3 6
            widestGap = 0
            place 0 7
            widestGap = 2
            place 2 1
            widestGap = 3
            place 3 1
            widestGap = 0
            place 0 13
            widestGap = 1
            """);
        Script.edge("15: all rows are full, or there is one row", """
            chase 20 2 5 4 2;rules 1 3 999;row 0 20;row 1 20
            widestGap = 0
            chase 20 1 5 4 2;rules 1 3 999
            widestGap = 0
            """);
        Script.edge("16: NONE if no row has blocks, whatever its gap and its slack", """
            chase 20 3 5 4 2;rules 1 3 999;wood 5 4
            loosest = -1
            put 0 0
            rest 1
            loosest = -1
            place 2 20
            loosest = 2
            lift 2 0
            loosest = -1
            """);
        Script.edge("16: only rows with blocks; also one that is tight", """
            chase 20 3 5 4 2;rules 1 3 999;row 1 20
            loosest = 1
            place 2 19
            loosest = 2
            """);
        Script.edge("16: slack plus 10 times the gap, of several the smallest number", """
            chase 20 3 5 4 2;rules 5 1 999;row 0 10 10;row 1 19;row 2 19
            loosest = 1
            lift 1 0
            place 1 20
            loosest = 2
            lift 0 0
            place 0 10
            print 1
            # 10 and 0, 5 and 0, 5 and 10
            loosest = 2
            place 2 1
            # 10, 5, 5
            loosest = 0
            lift 0 0
            print 1
            # 15 and 100, 10, 15
            loosest = 0
            place 0 10
            loosest = 0
            print 1
            # 25, 15, 25
            loosest = 0
            lift 0 1
            place 0 10
            print 1
            # 35, 20, 35
            loosest = 0
            lift 0 1
            unlock 0
            place 0 6
            place 0 1
            # 0 and 30, 20, 35
            loosest = 2
            unlock 2
            # 30, 20, 0
            loosest = 0
            place 0 2
            # 10, 20, 0
            loosest = 1
            """);
        Script.edge("17: the greatest length of which some are left, of several metal; NONE if none are left", """
            chase 50 1 5 4 2;rules 1 3 999;wood 7 1;metal 9 0;wood 8 1;metal 8 1;metal 3 1
            longestLeft = 3
            put 0 3
            longestLeft = 2
            put 0 2
            longestLeft = 0
            put 0 0
            longestLeft = 4
            put 0 4
            longestLeft = -1
            buy 1 1
            longestLeft = 1
            """);
        Script.edge("17: NONE without kinds, and if none of ten is left", """
            chase 50 1 5 4 2;rules 1 3 999
            longestLeft = -1
            chase 50 1 5 4 2;rules 2 3 40;wood 1 0;wood 2 0;wood 3 0;wood 4 0;wood 5 0;metal 1 0;metal 2 0;\
            metal 3 0;metal 4 0;metal 99 0
            longestLeft = -1
            """);
        Script.edge("18: the sum of the lengths of all pieces that are left: none, and all of ten kinds", """
            chase 50 1 5 4 2;rules 1 3 999
            lengthLeft = 0
            chase 50 1 5 4 2;rules 1 3 999;wood 50 1
            lengthLeft = 50
            put 0 0
            lengthLeft = 0
            chase 50 1 5 4 2;rules 2 3 40;wood 99 99;wood 98 99;wood 97 99;wood 96 99;wood 95 99;metal 99 99;\
            metal 98 99;metal 97 99;metal 96 99;metal 95 99
            lengthLeft = 96030
            """);
        Script.edge("19: the sum of the gaps divided by the number of rows", """
            chase 10 3 5 4 2;rules 1 3 999;row 0 10
            meanGap = 20/3
            place 1 10
            meanGap = 10/3
            place 2 10
            meanGap = 0/3
            chase 500 1 5 4 2;rules 1 3 999
            meanGap = 500/1
            chase 500 8 5 4 2;rules 1 3 999;row 7 1
            meanGap = 3999/8
            """);
        Script.edge("20: the wooden pieces divided by all pieces; 0.0 without pieces", """
            chase 50 2 5 4 2;rules 1 3 999;wood 3 9;metal 3 9
            woodShare = 0/1
            put 0 1
            woodShare = 0/1
            put 1 0
            woodShare = 1/2
            put 1 1
            woodShare = 1/3
            take 0 0
            take 1 1
            woodShare = 1/1
            take 1 0
            woodShare = 0/1
            put 0 0
            woodShare = 1/1
            put 1 1
            woodShare = 1/2
            """);
        Script.edge("15, 16, 19, 20: of eight rows and ten kinds the last counts, too", """
            chase 20 8 5 4 2;rules 1 3 999;wood 1 0;wood 2 1;wood 3 1;wood 4 1;wood 5 1;metal 1 1;metal 2 1;metal 3 1;\
            metal 4 1;wood 9 2;row 0 19;row 1 19;row 2 19;row 3 19;row 4 19;row 5 19;row 6 19;row 7 18
            widestGap = 7
            loosest = 7
            meanGap = 9/8
            woodShare = 0/1
            row 7 6 = 0
            lift 7 0
            put 7 9
            row 7 6 = 1
            row 0 6 = 0
            woodShare = 1/1
            put 7 5
            woodShare = 1/2
            loosest = 0
            """);
        Script.edge("21: the good impressions divided by all; 0.0 without any", """
            chase 20 1 5 4 2;rules 3 3 999;row 0 20
            goodShare = 0/1
            print 3 = 3
            goodShare = 1/1
            print 4 = 0
            goodShare = 3/7
            undo
            undo
            goodShare = 0/1
            place 0 1 = A
            lift 0 0
            place 0 19
            print 1 = 0
            goodShare = 0/1
            """);
    }

    public static void main(String[] args) {
        counts();
        properties();
        kinds();
        looks();
        Script.end();
    }
}
