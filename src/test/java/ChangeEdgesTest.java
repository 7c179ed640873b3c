/**
 * The edges of promises 40 to 52: changes, a script for each sentence that names one. That a refused change leaves all
 * as it was, and that undo brings back what was ahead of a change, is seen to at each line by Script.
 */
public final class ChangeEdgesTest {
    private static void blocks() {
        Script.edge("40: row is 0 to ROWS less 1, length is 1 to 200; no such row comes ahead of length", """
            chase 500 2 5 4 1;rules 0 0 99
            place min 1 = I
            place -1 1 = I
            place 2 1 = I
            place max 1 = I
            place -1 0 = I
            place 2 201 = I
            place 1 min = A
            place 1 -1 = A
            place 1 0 = A
            place 1 1 = 499
            place 1 200 = 299
            place 1 201 = A
            place 1 max = A
            place 0 200 = 300
            """);
        Script.edge("40: the row has 6 blocks", """
            chase 20 2 5 4 1;rules 0 0 99;row 1 1 2 3 4 5
            place 1 1 = 4
            row 1 0 = 6
            place 1 1 = A
            place 1 4 = A
            lift 1 0 = 1
            place 1 1 = 4
            writeRow 1 = "[2] [3] [4] [5] [1] [1]"
            place 1 1 = A
            place 0 1 = 19
            """);
        Script.edge("40: the gap would be below 0", """
            chase 20 1 5 4 1;rules 0 0 99
            place 0 21 = A
            place 0 200 = A
            place 0 20 = 0
            place 0 1 = A
            lift 0 0
            place 0 19 = 1
            place 0 2 = A
            place 0 1 = 0
            """);
        Script.edge("40: the gap would be below 0 with the pieces and the quoin that are there", """
            chase 20 1 5 4 1;rules 9 0 999;wood 3 1;row 0 1
            put 0 0 = 16
            quoin 0 true = 11
            open 0 2 = 9
            place 0 10 = A
            place 0 8 = 1
            place 0 2 = A
            place 0 1 = 0
            lift 0 2 = 1
            print 2
            tighten 0 = 16
            row 0 8 = 2
            place 0 2 = A
            place 0 1 = 0
            """);
        Script.edge("41: row is 0 to ROWS less 1, index is 0 to the blocks less 1", """
            chase 20 2 5 4 1;rules 0 0 99;row 1 1 2 3 4 5 4
            lift min 0 = I
            lift -1 0 = I
            lift 0 0 = I
            lift 2 0 = I
            lift max 0 = I
            lift 1 min = I
            lift 1 -1 = I
            lift 1 6 = I
            lift 1 max = I
            lift 1 5 = 4
            lift 1 5 = I
            lift 1 0 = 1
            lift 1 1 = 3
            writeRow 1 = "[2] [4] [5]"
            lift 1 2 = 5
            lift 1 1 = 4
            lift 1 0 = 2
            lift 1 0 = I
            row 1 3 = 20
            """);
        Script.edge("41, 43: slack stays where a block or a piece goes out", """
            chase 20 1 5 4 1;rules 3 2 99;wood 3 1;row 0 17
            put 0 0 = 0
            print 1 = 1
            rest 1 = 0
            row 0 5 = 5
            take 0 0 = 0
            row 0 5 = 5
            lift 0 0 = 17
            row 0 5 = 5
            """);
    }

    private static void pieces() {
        Script.edge("42: row is 0 to ROWS less 1, kind is 0 to the kinds less 1", """
            chase 20 2 5 4 1;rules 0 0 99;wood 3 9;metal 21 9
            put min 0 = I
            put -1 0 = I
            put 2 0 = I
            put max 0 = I
            put 1 min = I
            put 1 -1 = I
            put 1 2 = I
            put 1 max = I
            put 2 1 = I
            put 1 1 = A
            put 1 0 = 17
            put 0 0 = 17
            """);
        Script.edge("42: none is left", """
            chase 20 2 5 4 1;rules 0 0 99;wood 3 2;metal 3 0
            put 0 1 = A
            put 0 0 = 17
            put 1 0 = 17
            put 0 0 = A
            put 1 0 = A
            take 0 0 = 0
            put 1 0 = 14
            kind 0 2 = 0
            kind 0 3 = 2
            """);
        Script.edge("42: the gap would be below 0", """
            chase 20 1 5 4 1;rules 0 0 99;wood 7 9;wood 6 9;metal 1 9
            put 0 0 = 13
            put 0 0 = 6
            put 0 0 = A
            put 0 1 = 0
            put 0 2 = A
            put 0 1 = A
            take 0 0 = 0
            quoin 0 true = 2
            put 0 2 = 1
            open 0 1 = 0
            put 0 2 = A
            open 0 0 = 1
            put 0 2 = 0
            """);
        Script.edge("43: row is 0 to ROWS less 1, index is 0 to the pieces less 1", """
            chase 20 2 5 4 1;rules 0 0 99;wood 3 9;metal 2 9
            take 1 0 = I
            put 1 0
            put 1 1
            take min 0 = I
            take -1 0 = I
            take 0 0 = I
            take 2 0 = I
            take max 0 = I
            take 1 min = I
            take 1 -1 = I
            take 1 2 = I
            take 1 max = I
            take 1 1 = 1
            take 1 1 = I
            take 1 0 = 0
            take 1 0 = I
            kind 0 2 = 9
            kind 1 2 = 9
            """);
        Script.edge("43: it goes back to the stock, also if 99 are left", """
            chase 20 1 5 4 1;rules 0 0 99;wood 3 99
            put 0 0
            buy 0 1 = 99
            take 0 0 = 0
            kind 0 2 = 100
            buy 0 1 = A
            put 0 0
            put 0 0
            kind 0 2 = 98
            buy 0 2 = A
            buy 0 1 = 99
            """);
    }

    private static void quoins() {
        Script.edge("44: row is 0 to ROWS less 1", """
            chase 20 2 5 4 2;rules 0 0 99
            quoin min true = I
            quoin -1 true = I
            quoin -1 false = I
            quoin 2 true = I
            quoin 2 false = I
            quoin max false = I
            quoin 1 true = 15
            quoin 0 true = 15
            quoin 0 false = 20
            """);
        Script.edge("44: it is so already", """
            chase 20 1 5 4 2;rules 0 0 99
            quoin 0 false = A
            quoin 0 true = 15
            quoin 0 true = A
            quoin 0 false = 20
            quoin 0 false = A
            """);
        Script.edge("44: none is left", """
            chase 20 3 5 4 2;rules 0 0 99
            quoin 0 true = 15
            count 2 = 1
            quoin 1 true = 15
            count 2 = 0
            quoin 2 true = A
            quoin 1 false = 20
            count 2 = 1
            quoin 2 true = 15
            chase 20 1 5 4 0;rules 0 0 99
            quoin 0 true = A
            """);
        Script.edge("44: the gap would be below 0", """
            chase 20 3 5 4 3;rules 0 0 99;row 0 15;row 1 16;row 2 20
            quoin 0 true = 0
            quoin 1 true = A
            quoin 2 true = A
            quoin 0 false = 5
            chase 40 1 50 4 1;rules 0 0 99
            quoin 0 true = A
            chase 50 1 50 4 1;rules 0 0 99
            quoin 0 true = 0
            """);
        Script.edge("44: with the opening 0 and the take-up 0; its slack stays, in and out", """
            chase 20 1 5 4 1;rules 9 0 999;row 0 13
            quoin 0 true = 2
            open 0 1 = 1
            print 3 = 0
            tighten 0 = 0
            row 0 4 = 4
            row 0 8 = 3
            print 1 = 0
            quoin 0 false = 7
            row 0 5 = 9
            row 0 4 = -1
            row 0 8 = -1
            quoin 0 true = 2
            row 0 5 = 9
            row 0 4 = 0
            row 0 8 = 0
            """);
        Script.edge("45: row is 0 to ROWS less 1, opening is 0 to SPAN; no such row comes ahead of opening", """
            chase 20 2 5 4 2;rules 0 0 99
            quoin 1 true
            open min 0 = I
            open -1 0 = I
            open 2 0 = I
            open max 0 = I
            open -1 -1 = I
            open 2 5 = I
            open 1 min = A
            open 1 -1 = A
            open 1 0 = 15
            open 1 4 = 11
            open 1 5 = A
            open 1 max = A
            open 1 0 = 15
            """);
        Script.edge("45: the row has no quoin", """
            chase 20 2 5 4 2;rules 0 0 99
            open 0 0 = A
            open 0 5 = A
            quoin 1 true
            open 0 0 = A
            quoin 0 true
            open 0 0 = 15
            quoin 0 false
            open 0 0 = A
            """);
        Script.edge("45: the gap would be below 0", """
            chase 20 1 5 4 2;rules 0 0 99;row 0 13
            quoin 0 true = 2
            open 0 3 = A
            open 0 2 = 0
            open 0 3 = A
            open 0 4 = A
            open 0 1 = 1
            place 0 1 = 0
            open 0 2 = A
            open 0 1 = 0
            """);
        Script.edge("45: its take-up becomes 0, so that also the present opening may be too much", """
            chase 20 1 5 4 1;rules 9 0 999;row 0 14
            quoin 0 true = 1
            print 2
            tighten 0 = 0
            row 0 4 = 2
            row 0 8 = 2
            open 0 2 = A
            open 0 1 = 0
            row 0 8 = 0
            open 0 0 = 1
            row 0 8 = 0
            """);
        Script.edge("45: a SPAN of 0", """
            chase 20 1 5 0 1;rules 0 0 99
            quoin 0 true = 15
            open 0 0 = 15
            open 0 1 = A
            open 0 -1 = A
            """);
    }

    private static void locks() {
        Script.edge("46: row is 0 to ROWS less 1", """
            chase 20 2 5 4 2;rules 0 0 99;row 0 15;row 1 15
            lock min = I
            lock -1 = I
            lock 2 = I
            lock max = I
            lock 1 = 0
            lock 0 = 0
            """);
        Script.edge("46: there is no filling", """
            chase 20 1 5 4 1;rules 0 0 99;wood 3 1;row 0 8
            lock 0 = 1
            unlock 0 = 1
            lift 0 0
            place 0 7
            lock 0 = A
            lift 0 0
            place 0 15
            lock 0 = 0
            unlock 0 = 0
            place 0 1
            lock 0 = A
            chase 20 1 5 4 0;rules 0 0 99;row 0 20
            lock 0 = 0
            """);
        Script.edge("46: its pieces behind those that are there, the longest kind first, of the same length metal", """
            chase 60 1 5 4 1;rules 0 0 99;wood 3 9;metal 12 1;wood 12 1;metal 7 1;wood 7 9
            put 0 0
            put 0 4
            lock 0 = 5
            writeRow 0 = "w3 w7 m12 w12 m7 w7 w7 q0"
            """);
        Script.edge("46: the opening of its quoin, or of one that is put in; none if none is left", """
            chase 20 3 5 4 1;rules 0 0 99;wood 5 3;row 0 12;row 1 15
            lock 0 = 0
            row 0 4 = 3
            count 2 = 0
            lock 1 = 1
            row 1 4 = -1
            open 0 0 = 3
            lock 0 = 0
            row 0 4 = 3
            count 2 = 0
            """);
        Script.edge("46: take-up and slack become 0, also of a row with the gap 0", """
            chase 20 1 5 4 1;rules 9 0 999;wood 1 9;row 0 13
            quoin 0 true = 2
            print 4 = 0
            tighten 0 = 0
            print 1 = 0
            row 0 4 = 4
            row 0 8 = 4
            row 0 5 = 9
            row 0 3 = 2
            lock 0 = 0
            row 0 4 = 2
            row 0 8 = 0
            row 0 5 = 0
            isTight 0 = true
            print 1 = 1
            isTight 0 = false
            lock 0 = 0
            isTight 0 = true
            """);
        Script.edge("47: row is 0 to ROWS less 1", """
            chase 20 2 5 4 2;rules 0 0 99;wood 5 9;row 0 5;row 1 10
            lock 0 = 2
            lock 1 = 1
            unlock min = I
            unlock -1 = I
            unlock 2 = I
            unlock max = I
            unlock 1 = 1
            unlock 0 = 2
            """);
        Script.edge("47: all pieces and the quoin, none of either, and its slack becomes 0", """
            chase 20 2 5 4 1;rules 3 0 99;wood 5 9;row 0 7 3
            unlock 0 = 0
            lock 0 = 1
            count 2 = 0
            print 1 = 1
            row 0 5 = 6
            unlock 0 = 1
            count 2 = 1
            kind 0 2 = 9
            row 0 5 = 0
            row 0 4 = -1
            row 0 8 = -1
            row 0 3 = 10
            writeRow 0 = "[7] [3]"
            unlock 0 = 0
            unlock 1 = 0
            """);
        Script.edge("48: row is 0 to ROWS less 1", """
            chase 20 2 5 4 2;rules 0 0 99;row 0 15;row 1 14
            relock min = I
            relock -1 = I
            relock 2 = I
            relock max = I
            relock 1 = 0
            relock 0 = 0
            """);
        Script.edge("48: with fewer pieces than before, or as many", """
            chase 20 2 5 0 1;rules 2 3 99;wood 2 5;metal 6 1;row 0 9
            quoin 0 true
            3 times put 0 0
            print 1
            lock 0 = 0
            relock 0 = 1
            writeRow 0 = "[9] m6 q0"
            row 0 5 = 0
            relock 0 = 1
            """);
        Script.edge("48: there was no filling then, though there is one as it is", """
            chase 20 1 5 4 1;rules 2 3 99;wood 4 2;row 0 8
            lock 0 = 1
            lift 0 0
            place 0 7
            writeRow 0 = "[7] w4 q3"
            relock 0 = 1
            writeRow 0 = "[7] w4 q4"
            lift 0 0
            place 0 6
            relock 0 = 2
            lift 0 0
            place 0 4
            relock 0 = 2
            writeRow 0 = "[4] w4 w4 q3"
            lift 0 0
            relock 0 = A
            lock 0 = A
            writeRow 0 = "w4 w4 q3"
            """);
        Script.edge("48: there is no filling as it is, but then there was", """
            chase 20 1 5 4 1;rules 2 3 99;wood 9 1;wood 4 2;row 0 2
            put 0 0
            put 0 1
            lock 0 = 0
            unlock 0 = 2
            put 0 1
            put 0 1
            choice 0 0 = -1
            lock 0 = A
            relock 0 = 1
            writeRow 0 = "[2] w9 q4"
            """);
    }

    private static void tightening() {
        Script.edge("49: row is 0 to ROWS less 1, and the row has a quoin", """
            chase 20 2 5 4 1;rules 9 0 999;row 0 15;row 1 15
            tighten min = I
            tighten -1 = I
            tighten 2 = I
            tighten max = I
            tighten 0 = A
            tighten 1 = A
            quoin 1 true
            tighten 0 = A
            tighten 1 = 0
            quoin 1 false
            tighten 1 = A
            """);
        Script.edge("49: as long as its slack is greater than 0: of 0, 1, 10 and 11", """
            chase 20 1 5 4 1;rules 1 0 999;row 0 14
            quoin 0 true = 1
            tighten 0 = 0
            row 0 4 = 0
            row 0 8 = 0
            print 1
            tighten 0 = 0
            row 0 4 = 1
            row 0 8 = 1
            print 10
            tighten 0 = 0
            row 0 4 = 2
            row 0 8 = 2
            print 11
            tighten 0 = 0
            row 0 4 = 4
            row 0 8 = 4
            row 0 2 = 19
            row 0 3 = 1
            """);
        Script.edge("49: as long as its opening is less than SPAN", """
            chase 20 1 5 2 1;rules 7 0 999;row 0 14
            quoin 0 true = 1
            print 3
            tighten 0 = 1
            row 0 4 = 2
            row 0 8 = 2
            tighten 0 = 1
            row 0 4 = 2
            open 0 1 = 0
            tighten 0 = 0
            row 0 4 = 2
            row 0 8 = 1
            row 0 3 = 0
            print 1
            tighten 0 = 7
            """);
        Script.edge("49: with a SPAN of 0 there is nothing to open", """
            chase 20 1 5 0 1;rules 7 0 999;row 0 15
            quoin 0 true = 0
            print 1
            tighten 0 = 7
            row 0 4 = 0
            row 0 8 = 0
            """);
        Script.edge("49: the length of the row stays, also of a full one", """
            chase 30 1 5 20 1;rules 9 0 999;row 0 5 5 5 5 1 1
            quoin 0 true = 3
            open 0 3 = 0
            print 3 = 0
            row 0 5 = 162
            tighten 0 = 0
            row 0 4 = 20
            row 0 8 = 17
            row 0 2 = 30
            row 0 3 = 0
            print 1 = 0
            tighten 0 = 54
            """);
    }

    private static void impressions() {
        Script.edge("50: impressions is 1 to 100", """
            chase 20 1 5 4 1;rules 0 0 99;row 0 20
            print min = A
            print -1 = A
            print 0 = A
            print 1 = 1
            print 100 = 100
            print 101 = A
            print max = A
            count 6 = 101
            """);
        Script.edge("3: in an impression the slack grows by SHAKE times the number of blocks: of none, one and six", """
            chase 20 3 5 4 1;rules 9 0 999;wood 5 9;row 0 20;row 1 1 1 1 1 1 15
            put 2 0
            print 1 = 0
            row 0 5 = 9
            row 1 5 = 54
            row 2 5 = 0
            """);
        Script.edge("3: a row falls if slack plus 10 times its gap is greater than HOLD: at the gap 0", """
            chase 20 1 5 4 1;rules 1 0 40;row 0 20
            print 40 = 9
            row 0 0 = 1
            row 0 5 = 40
            count 10 = 0
            print 1 = 0
            row 0 0 = 0
            row 0 5 = 0
            count 9 = 1
            count 10 = 1
            """);
        Script.edge("3: a row falls if slack plus 10 times its gap is greater than HOLD: by its gap alone", """
            chase 20 3 5 4 1;rules 0 0 40;row 0 16;row 1 15;row 2 16
            print 1 = 0
            row 0 0 = 1
            row 1 0 = 0
            row 2 0 = 1
            count 10 = 1
            rest 1 = 0
            lift 2 0
            place 2 15
            rest 1 = 1
            row 2 0 = 0
            """);
        Script.edge("3: a row falls if slack plus 10 times its gap is greater than HOLD: at the greatest HOLD", """
            chase 299 1 5 4 1;rules 9 0 999;row 0 200
            print 1 = 0
            row 0 5 = 9
            row 0 3 = 99
            row 0 0 = 1
            print 1 = 0
            row 0 0 = 0
            chase 299 1 5 4 1;rules 9 0 998;row 0 200
            print 1 = 0
            row 0 0 = 0
            """);
        Script.edge("3: an impression is good if all rows with blocks have the gap 0 and a slack of less than 10", """
            chase 20 2 5 4 1;rules 1 0 99;row 0 20;row 1 19
            print 1 = 0
            place 1 1
            print 4 = 4
            # row 0 stands at 5, row 1 at 1 and 4 times 2
            row 0 5 = 5
            row 1 5 = 9
            print 1 = 0
            row 1 5 = 11
            lift 1 0
            lift 1 0
            row 1 5 = 11
            print 3 = 3
            row 0 5 = 9
            print 1 = 0
            """);
        Script.edge("3: without any blocks each impression is good; gap and slack of such rows do not count", """
            chase 20 2 5 4 1;rules 9 9 1;wood 5 9
            print 1 = 1
            put 1 0
            rest 9 = 0
            row 1 5 = 81
            print 100 = 100
            row 1 5 = 81
            """);
        Script.edge("3: an impression in which a row fell is not good, though all others hold", """
            chase 20 2 5 4 1;rules 0 0 9;row 0 20;row 1 19
            print 1 = 0
            count 10 = 1
            print 1 = 1
            count 7 = 1
            """);
        Script.edge("3: a row that falls: its blocks are counted, pieces and quoin go back, its slack becomes 0", """
            chase 20 2 5 4 1;rules 9 1 20;wood 5 2;metal 1 1;row 0 1 1 1;row 1 20
            put 0 0
            put 0 1
            quoin 0 true = 6
            open 0 4 = 2
            count 2 = 0
            print 1 = 0
            count 2 = 1
            count 3 = 1
            count 4 = 0
            count 9 = 3
            count 10 = 1
            kind 0 2 = 2
            kind 1 2 = 1
            writeRow 0 = ""
            row 0 3 = 20
            row 0 4 = -1
            row 0 5 = 0
            row 0 8 = -1
            row 1 5 = 9
            """);
        Script.edge("3: of a kind more than 99 may be left then", """
            chase 100 1 1 0 0;rules 1 0 1;wood 1 99;row 0 1
            put 0 0
            buy 0 1 = 99
            print 1 = 0
            kind 0 2 = 100
            count 11 = 100
            lengthLeft = 100
            choice 0 0 = 100
            ways 0 = 1
            fillable 100 = 101
            lock 0 = 100
            kind 0 3 = 100
            """);
        Script.edge("3: all eight rows fall in one impression", """
            chase 10 8 5 4 1;rules 0 0 9;row 0 9;row 1 9;row 2 9;row 3 9;row 4 9;row 5 9;row 6 9;row 7 9
            print 1 = 0
            count 10 = 8
            count 9 = 8
            count 3 = 0
            print 1 = 1
            """);
    }

    private static void days() {
        Script.edge("51: days is 1 to 100", """
            chase 20 1 5 4 1;rules 0 0 99;row 0 20
            rest min = A
            rest -1 = A
            rest 0 = A
            rest 1 = 0
            rest 100 = 0
            rest 101 = A
            rest max = A
            count 8 = 101
            """);
        Script.edge("3: in a day the slack grows by DRY times the number of wooden pieces, not of metal or blocks", """
            chase 20 4 5 4 1;rules 9 9 999;wood 3 5;metal 3 9;row 0 20;row 1 7 1
            put 1 0
            put 1 1
            put 1 0
            put 2 1
            3 times put 3 0
            rest 1 = 0
            row 0 5 = 0
            row 1 5 = 18
            row 2 5 = 0
            row 3 5 = 27
            rest 2 = 0
            row 1 5 = 54
            row 3 5 = 81
            """);
        Script.edge("3: the slack of rows without blocks grows, too, but they do not fall", """
            chase 20 1 5 4 1;rules 0 9 1;wood 5 4
            4 times put 0 0
            rest 100 = 0
            row 0 5 = 3600
            row 0 1 = 4
            count 10 = 0
            take 0 3
            place 0 5
            rest 1 = 1
            row 0 5 = 0
            row 0 1 = 0
            kind 0 2 = 4
            """);
        Script.edge("3: a row falls in the day in which its slack is greater than HOLD", """
            chase 20 1 5 4 1;rules 0 4 40;wood 5 4;row 0 15
            put 0 0
            rest 10 = 0
            row 0 5 = 40
            fallsIn 0 true = 1
            rest 1 = 1
            count 9 = 1
            kind 0 2 = 4
            undo
            place 0 1 = A
            lift 0 0
            place 0 15
            rest 100 = 1
            count 8 = 110
            row 0 5 = 0
            """);
        Script.edge("51: returns how many rows fell: none, one, all eight, on several days", """
            chase 10 8 5 4 1;rules 0 1 9;wood 1 9;row 0 9;row 1 9;row 2 10;row 3 10;row 4 8;row 5 10;row 6 10;row 7 10
            put 0 0
            put 4 0
            # rows 1 and 4 have a gap of 1
            rest 1 = 2
            rest 8 = 0
            row 0 5 = 9
            rest 1 = 1
            count 10 = 3
            chase 10 8 5 4 1;rules 0 1 9;row 0 9;row 1 9;row 2 9;row 3 9;row 4 9;row 5 9;row 6 9;row 7 9
            rest 100 = 8
            count 9 = 8
            rest 1 = 0
            """);
        Script.edge("52: kind is 0 to the kinds less 1, many is 1 to 99; no such kind comes ahead of many", """
            chase 20 1 5 4 1;rules 0 0 99;wood 5 0;wood 6 0
            buy min 1 = I
            buy -1 1 = I
            buy 2 1 = I
            buy max 1 = I
            buy -1 0 = I
            buy 2 100 = I
            buy 1 min = A
            buy 1 -1 = A
            buy 1 0 = A
            buy 1 100 = A
            buy 1 max = A
            buy 1 1 = 1
            buy 0 99 = 99
            """);
        Script.edge("52: more than 99 would be left", """
            chase 20 1 5 4 1;rules 0 0 99;wood 5 98;metal 5 99;wood 6 1
            buy 0 2 = A
            buy 0 99 = A
            buy 0 1 = 99
            buy 0 1 = A
            buy 1 1 = A
            put 0 1
            buy 1 2 = A
            buy 1 1 = 99
            take 0 0
            kind 1 2 = 100
            buy 1 1 = A
            buy 1 99 = A
            buy 2 99 = A
            buy 2 98 = 99
            """);
        Script.edge("52: there is no kind in a chase without any", """
            chase 20 1 5 4 1;rules 0 0 99
            buy 0 1 = I
            put 0 0 = I
            canPut 0 0 = I
            chosen 0 0 = I
            """);
    }

    public static void main(String[] args) {
        blocks();
        pieces();
        quoins();
        locks();
        tightening();
        impressions();
        days();
        Script.end();
    }
}
