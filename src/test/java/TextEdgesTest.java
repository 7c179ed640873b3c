/** The edges of promises 36 to 39: texts, a script for each sentence that names one. */
public final class TextEdgesTest {
    private static void rows() {
        Script.edge("36, 37: row is 0 to ROWS less 1", """
            chase 20 2 5 4 1;rules 0 0 99;row 1 7
            writeRow min = I
            writeRow -1 = I
            writeRow 0 = ""
            writeRow 1 = "[7]"
            writeRow 2 = I
            writeRow max = I
            writeChoice min = I
            writeChoice -1 = I
            writeChoice 0 = "-"
            writeChoice 1 = "-"
            writeChoice 2 = I
            writeChoice max = I
            textByte 0 = 45
            """);
        Script.edge("36: blocks alone, pieces alone, a quoin alone, and all of them with a space between two", """
            chase 250 4 5 4 3;rules 0 0 999;wood 3 9;metal 99 9;row 0 200 1;row 3 10
            writeRow 0 = "[200] [1]"
            put 1 1
            put 1 0
            writeRow 1 = "m99 w3"
            quoin 2 true
            writeRow 2 = "q0"
            open 2 4
            writeRow 2 = "q4"
            writeRow 3 = "[10]"
            put 3 0
            quoin 3 true
            writeRow 3 = "[10] w3 q0"
            lift 3 0
            writeRow 3 = "w3 q0"
            take 3 0
            place 3 9
            writeRow 3 = "[9] q0"
            quoin 3 false
            lift 3 0
            writeRow 3 = ""
            """);
        Script.edge("36: numbers have no leading zeros, and one to three digits", """
            chase 500 1 5 20 3;rules 0 0 999;wood 007 09;row 0 001 099 100 200
            put 0 0
            quoin 0 true
            open 0 9
            writeRow 0 = "[1] [99] [100] [200] w7 q9"
            open 0 10
            writeRow 0 = "[1] [99] [100] [200] w7 q10"
            open 0 20
            writeRow 0 = "[1] [99] [100] [200] w7 q20"
            """);
        Script.edge("36: the opening of the quoin, whatever its take-up", """
            chase 20 1 5 4 1;rules 9 0 999;row 0 15
            quoin 0 true
            print 2
            tighten 0
            row 0 8 = 2
            writeRow 0 = "[15] q2"
            """);
    }

    private static void choices() {
        Script.edge("37: without a filling a hyphen; without pieces and opening an empty text", """
            chase 20 2 5 4 0;rules 0 0 99;wood 3 0;row 0 20;row 1 19
            writeChoice 0 = ""
            writeChoice 1 = "-"
            """);
        Script.edge("37: an opening alone, pieces alone, both", """
            chase 20 3 5 4 1;rules 0 0 99;wood 3 5;row 0 15;row 1 7;row 2 8
            writeChoice 0 = "q0"
            writeChoice 1 = "2xw3 q2"
            writeChoice 2 = "1xw3 q4"
            quoin 0 true
            writeChoice 2 = "4xw3"
            """);
        Script.edge("37: the longest kind first, of the same length metal first, each kind of it", """
            chase 60 1 5 0 0;rules 0 0 99;wood 3 1;wood 12 1;metal 12 2;metal 7 1;metal 2 0;wood 7 2
            writeChoice 0 = "2xm12 1xw12 1xm7 2xw7 1xw3"
            """);
        Script.edge("37: how many with one, two and three digits", """
            chase 200 3 1 0 0;rules 0 0 999;wood 1 99;row 0 191;row 1 190;row 2 101
            writeChoice 0 = "9xw1"
            writeChoice 1 = "10xw1"
            writeChoice 2 = "99xw1"
            """);
        Script.edge("37, 38: more than 99 are left where a row fell", MORE_THAN_99 + """
            writeStock = "w1:100"
            writeChoice 0 = "100xw1"
            """);
    }

    /** A row with a piece falls while 99 are left: 100 are left then. */
    private static final String MORE_THAN_99 = """
            chase 100 1 1 0 0;rules 1 0 1;wood 1 99;row 0 1
            put 0 0
            buy 0 1 = 99
            print 1 = 0
            """;

    private static void stock() {
        Script.edge("38: each kind by number with a comma between two: none, one, two, ten", """
            chase 20 1 5 4 1;rules 0 0 99
            writeStock = ""
            chase 20 1 5 4 1;rules 0 0 99;wood 1 0
            writeStock = "w1:0"
            chase 20 1 5 4 1;rules 0 0 99;metal 99 99;wood 10 10
            writeStock = "m99:99,w10:10"
            put 0 1
            writeStock = "m99:99,w10:9"
            chase 20 1 5 4 1;rules 0 0 99;wood 1 0;wood 2 1;wood 3 1;wood 4 1;wood 5 1;metal 5 1;metal 4 1;metal 3 1;\
            metal 2 1;metal 1 1
            writeStock = "w1:0,w2:1,w3:1,w4:1,w5:1,m5:1,m4:1,m3:1,m2:1,m1:1"
            """);
    }

    private static void bytes() {
        Script.edge("39: i is 0 to the number of bytes less 1", """
            chase 20 1 5 4 1;rules 0 0 99;row 0 7
            writeRow 0 = 3
            textByte min = I
            textByte -1 = I
            textByte 0 = 91
            textByte 1 = 55
            textByte 2 = 93
            textByte 3 = I
            textByte max = I
            """);
        Script.edge("39: always, before the first text, which may be empty", """
            textByte 0 = I
            textByte -1 = I
            chase 20 1 5 4 1;rules 0 0 99
            textByte 0 = I
            writeRow 0 = 0
            textByte 0 = I
            writeStock = 0
            textByte 0 = I
            """);
        Script.edge("36, 37, 38: a text replaces the one that was written before, also if it is shorter", """
            chase 20 1 5 4 1;rules 0 0 99;wood 3 9;row 0 7
            writeStock = "w3:9"
            writeRow 0 = "[7]"
            writeChoice 0 = "2xw3 q2"
            lift 0 0
            writeRow 0 = ""
            writeChoice 0 = "4xw3 q3"
            place 0 2
            writeChoice 0 = "3xw3 q4"
            put 0 0
            writeRow 0 = "[2] w3"
            """);
        Script.edge("5: the text stays until the next one, behind changes, load, undo and restore", """
            chase 20 1 5 4 1;rules 0 0 99;wood 3 9;row 0 7
            save 0
            writeRow 0 = "[7]"
            lock 0
            textByte 2 = 93
            textByte 3 = I
            undo
            textByte 2 = 93
            restore 0
            textByte 2 = 93
            save 1
            textByte 2 = 93
            writeRow 1 = I
            writeChoice -1 = I
            textByte 2 = 93
            chase 10 1 1 0 0;rules 0 0 1
            textByte 2 = 93
            load |^| = A 1
            textByte 2 = 93
            textByte 3 = I
            writeRow 0 = ""
            """);
    }

    public static void main(String[] args) {
        rows();
        choices();
        stock();
        bytes();
        Script.end();
    }
}
