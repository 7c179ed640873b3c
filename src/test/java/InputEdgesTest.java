/** The edges of promises 1 to 6 and of the text format, a script for each sentence that names one. */
public final class InputEdgesTest {
    private static final String HEAD = "chase 50 3 5 4 2;rules 2 3 40";
    private static final String NINE = HEAD + ";wood 1 1;wood 2 2;wood 3 3;wood 4 4;wood 5 5"
        + ";metal 1 6;metal 2 7;metal 3 8;metal 4 9";
    private static final String TEN = NINE + ";metal 5 10";

    private static void edge(String title, String script) {
        Script.edge(title, script.replace("NINE", NINE).replace("TEN", TEN).replace("HEAD", HEAD));
    }

    private static void newObject() {
        edge("1: without a chase, with an empty input buffer, and nothing was ever written or changed", """
            buffered = 0
            parseError = 0
            errorPosition = -1
            undoable = 0
            count 0 = S
            textByte 0 = I
            undo = S
            restore 0 = S
            restore 1 = S
            load 1 = I
            """);
        edge("5: IllegalStateException if no text was loaded, ahead of all other exceptions", NOTHING_LOADED);
        edge("5: a text with an error is no text that was loaded", "load |^| = A 1\n" + NOTHING_LOADED);
    }

    private static final String NOTHING_LOADED = """
            count 0 = S
            count 12 = S
            setting 0 = S
            setting 6 = S
            row 0 0 = S
            row -1 9 = S
            block 0 0 = S
            block -1 -1 = S
            piece 0 0 = S
            piece -1 -1 = S
            kind 0 0 = S
            kind -1 4 = S
            kindOf true 5 = S
            kindOf false -1 = S
            isTight 0 = S
            isTight -1 = S
            widestGap = S
            loosest = S
            longestLeft = S
            lengthLeft = S
            meanGap = S
            woodShare = S
            goodShare = S
            choice 0 0 = S
            choice -1 4 = S
            chosen 0 0 = S
            chosen -1 -1 = S
            ways 0 = S
            ways -1 = S
            nearest 0 = S
            nearest -1 = S
            fewestAt 0 1 = S
            fewestAt -1 0 = S
            rowFor 1 = S
            rowFor 0 = S
            missing 0 = S
            missing -1 = S
            canPut 0 0 = S
            canPut -1 -1 = S
            freshChoice 0 = S
            freshChoice -1 = S
            fillable 0 = S
            fillable -1 = S
            fallsIn 0 true = S
            fallsIn -1 false = S
            goodIn 0 = S
            goodIn -1 = S
            lockable = S
            lockedAll = S
            writeRow 0 = S
            writeRow -1 = S
            writeChoice 0 = S
            writeChoice -1 = S
            writeStock = S
            place 0 1 = S
            place -1 0 = S
            lift 0 0 = S
            lift -1 -1 = S
            put 0 0 = S
            put -1 -1 = S
            take 0 0 = S
            take -1 -1 = S
            quoin 0 true = S
            quoin -1 false = S
            open 0 0 = S
            open -1 -1 = S
            lock 0 = S
            lock -1 = S
            unlock 0 = S
            unlock -1 = S
            relock 0 = S
            relock -1 = S
            tighten 0 = S
            tighten -1 = S
            print 1 = S
            print 0 = S
            rest 1 = S
            rest 0 = S
            buy 0 1 = S
            buy -1 0 = S
            undo = S
            save 0 = S
            save 2 = S
            restore 0 = S
            restore 2 = I
            restore -1 = I
            """;

    private static void buffer() {
        edge("2: the bytes of each argument in order, the most significant byte first", """
            append 0x63686173 0x65203530 0x20312035 0x20342031 0x3b72756c = 20
            append 0x65732032 0x20332034 0x303b776f 0x6f642031 0x20312020 = 40
            load 38 = 1
            setting 0 = 50
            setting 5 = 40
            kind 0 1 = 1
            """);
        for (int i = 0; i < 20; i++) {
            edge("2: byte " + i + " of twenty blanks but one", """
                append %s
                load 20 = A
                parseError = 1
                errorPosition = %d
                """.formatted(blanksBut(i), i));
        }
        edge("2: returns the number of bytes; up to 500 they go in, with more nothing is appended", """
            type |chase 50 1 5 4 1;rules 2 3 40|
            buffered = 40
            21 times append 0x20202020 0x20202020 0x20202020 0x20202020 0x20202020
            append min max 0 -1 -1 = 480
            buffered = 480
            append 0x20202020 0x20202020 0x20202020 0x20202020 0x20203738 = 500
            append 0 0 0 0 0 = -1
            append min max 1 2 3 = -1
            buffered = 500
            load 501 = I
            load 500 = A
            parseError = 1
            errorPosition = 460
            buffered = 0
            append 0 0 0 0 0 = 20
            """);
        edge("2: behind an append that did not go in the 500 bytes are as they were", """
            type |chase 50 1 5 4 1;rules 2 3 40;row 0|
            22 times append 0x20202020 0x20202020 0x20202020 0x20202020 0x20202020
            append 0x20202020 0x20202020 0x20202020 0x20202020 0x20202037 = 500
            append 0x39393939 0x39393939 0x39393939 0x39393939 0x39393939 = -1
            load 500 = 0
            block 0 0 = 7
            """);
        edge("6: the number of bytes in the buffer, ahead of and behind append and load", """
            buffered = 0
            type |chase|
            buffered = 20
            load 21 = I
            buffered = 20
            load 5 = A
            buffered = 0
            """);
    }

    private static String blanksBut(int place) {
        StringBuilder b = new StringBuilder();
        for (int i = 0; i < 20; i++) {
            b.append(i % 4 == 0 ? " 0x" : "").append(i == place ? "7e" : "20");
        }
        return b.substring(1);
    }

    private static void load() {
        edge("3: n is 0 to the number of bytes in the buffer, which is empty", """
            load -1 = I
            load min = I
            load 1 = I
            load max = I
            load 0 = A
            parseError = 1
            errorPosition = 0
            """);
        edge("3: n is 0 to the number of bytes in the buffer, which holds 20", """
            type |chase 50|
            load 21 = I
            load -1 = I
            load max = I
            load min = I
            buffered = 20
            load 20 = A
            errorPosition = 20
            """);
        edge("3: by IndexOutOfBoundsException the buffer, parseError() and errorPosition() stay", """
            load |chase ^9| = A 2
            type |chase 50|
            load 21 = I
            parseError = 2
            errorPosition = 6
            buffered = 20
            """);
        edge("3: the first n bytes are parsed, and the buffer is emptied of all others, too", """
            type |chase 50 1 5 4 1;rules 2 3 406 7 8 9 9 9 9|
            buffered = 60
            load 29 = 0
            setting 5 = 40
            buffered = 0
            load 1 = I
            """);
        edge("3: the first n bytes are parsed: a token may be cut off by n", """
            type |chase 50 1 5 4 1;rules 2 3 406|
            load 28 = 0
            setting 5 = 4
            type |chase 50 1 5 4 1;rules 2 3 406|
            load 30 = 0
            setting 5 = 406
            type |chase 50 1 5 4 1;rules 2 3 406|
            load 27 = A
            parseError = 1
            errorPosition = 27
            """);
        edge("3: the buffer is emptied even if the parse fails", """
            type |chase 50 1 5 4 1;rules 2 3 40|
            load 5 = A
            buffered = 0
            load 29 = I
            """);
        edge("3: on success all of the previous chase is replaced, and no state is saved", """
            chase 20 2 5 4 2;rules 9 1 300;wood 2 9;metal 3 9;row 0 15;row 1 7
            lock 0 = 0
            put 1 0
            save 0 = 0
            print 1 = 0
            print 40 = 7
            rest 2 = 0
            save 1 = 41
            count 10 = 2
            undoable = 5
            writeStock = "w2:9,m3:9"
            put 0 0 = 18
            rest 1 = 0
            lockedAll
            freshChoice 1
            goodIn 1
            load |chase 10 1 1 0 0;rules 0 0 1| = 0
            count 0 = 1
            count 1 = 0
            count 2 = 0
            count 3 = 0
            count 4 = 0
            count 5 = 0
            count 6 = 0
            count 7 = 0
            count 8 = 0
            count 9 = 0
            count 10 = 0
            count 11 = 0
            row 0 1 = 0
            row 0 3 = 10
            row 0 5 = 0
            row 1 0 = I
            kind 0 0 = I
            kindOf false 2 = -1
            undoable = 0
            undo = S
            restore 0 = S
            restore 1 = S
            textByte 0 = 119
            """);
        edge("3: by IllegalArgumentException the previous chase stays", """
            chase 20 2 5 4 2;rules 9 1 300;wood 2 9;metal 3 9;row 0 15;row 1 7
            lock 0 = 0
            save 1 = 0
            put 1 0 = 11
            load |chase 10 1 1 0 0;rules 0 0 1;^| = A 1
            load |chase 10 1 1 0 0;rules 0 0 ^0| = A 2
            load |chase 10 1 1 0 0;rules 0 0 1;wood 1 1;wood ^1 1| = A 3
            load |chase 10 1 1 0 0;rules 0 0 1;row 0 1 1 1 1 1 1 ^1| = A 4
            load |chase 10 1 1 0 0;rules 0 0 1;wood 9 99;row 0 ^11| = A 5
            setting 0 = 20
            row 1 3 = 11
            undo = 1
            row 1 3 = 13
            restore 1 = 0
            """);
        edge("3: returns the number of kinds, 0 to 10", """
            load |chase 50 1 5 4 1;rules 2 3 40| = 0
            load |chase 50 1 5 4 1;rules 2 3 40;wood 1 0| = 1
            load |chase 50 1 5 4 1;rules 2 3 40;row 0| = 0
            load |NINE| = 9
            load |NINE;metal 5 10| = 10
            """);
    }

    private static void errorsTold() {
        edge("4, 5: 0 and NONE ahead of the first load, and behind one that succeeded", """
            parseError = 0
            errorPosition = -1
            load 1 = I
            parseError = 0
            errorPosition = -1
            load |chase 50 3 5 4^| = A 1
            parseError = 1
            errorPosition = 14
            chase 50 3 5 4 2;rules 2 3 40
            parseError = 0
            errorPosition = -1
            """);
        edge("4, 5: of the latest load that did not throw IndexOutOfBoundsException", """
            load |chase ^9| = A 2
            load -1 = I
            load 1 = I
            parseError = 2
            errorPosition = 6
            load |^| = A 1
            parseError = 1
            errorPosition = 0
            """);
        edge("4: each of the codes 1 to 5", """
            load |chase 50 3 5 4 2;rules 2 3 40;wood 5^| = A 1
            load |chase 50 3 5 4 2;rules 2 3 40;wood 5 ^100| = A 2
            load |chase 50 3 5 4 2;rules 2 3 40;wood 5 99;wood ^5 1| = A 3
            load |chase 50 3 5 4 2;rules 2 3 40;row 0 1 1 1 1 1 1 ^1| = A 4
            load |chase 50 3 5 4 2;rules 2 3 40;row 0 ^51| = A 5
            """);
    }

    private static void bounds() {
        edge("1.1: LONG is 10 to 500", """
            load |chase ^9 3 5 4 2;rules 2 3 40| = A 2
            load |chase ^0 3 5 4 2;rules 2 3 40| = A 2
            load |chase 10 3 5 4 2;rules 2 3 40| = 0
            setting 0 = 10
            row 0 3 = 10
            load |chase 500 3 5 4 2;rules 2 3 40| = 0
            setting 0 = 500
            row 2 3 = 500
            load |chase ^501 3 5 4 2;rules 2 3 40| = A 2
            load |chase ^999 3 5 4 2;rules 2 3 40| = A 2
            """);
        edge("1.1: ROWS is 1 to 8, numbered from 0", """
            load |chase 50 ^0 5 4 2;rules 2 3 40| = A 2
            load |chase 50 1 5 4 2;rules 2 3 40| = 0
            count 0 = 1
            row -1 3 = I
            row 0 3 = 50
            row 1 3 = I
            load |chase 50 8 5 4 2;rules 2 3 40| = 0
            count 0 = 8
            row 7 3 = 50
            row 8 3 = I
            load |chase 50 ^9 5 4 2;rules 2 3 40| = A 2
            """);
        edge("1.1: QUOIN is 1 to 50", """
            load |chase 60 3 ^0 4 2;rules 2 3 40| = A 2
            load |chase 60 3 1 4 2;rules 2 3 40| = 0
            setting 1 = 1
            quoin 0 true = 59
            load |chase 60 3 50 4 2;rules 2 3 40| = 0
            setting 1 = 50
            quoin 0 true = 10
            load |chase 60 3 ^51 4 2;rules 2 3 40| = A 2
            """);
        edge("1.1: SPAN is 0 to 20", """
            load |chase 50 3 5 ^-1 2;rules 2 3 40| = A 1
            load |chase 50 3 5 0 2;rules 2 3 40| = 0
            setting 2 = 0
            quoin 0 true = 45
            open 0 0 = 45
            open 0 1 = A
            load |chase 50 3 5 20 2;rules 2 3 40| = 0
            setting 2 = 20
            quoin 0 true = 45
            open 0 20 = 25
            open 0 21 = A
            load |chase 50 3 5 ^21 2;rules 2 3 40| = A 2
            """);
        edge("4: QUOINS is 0 to 20", """
            load |chase 50 3 5 4 ^-1;rules 2 3 40| = A 1
            load |chase 50 3 5 4 0;rules 2 3 40| = 0
            count 2 = 0
            quoin 0 true = A
            load |chase 50 3 5 4 20;rules 2 3 40| = 0
            count 2 = 20
            load |chase 50 3 5 4 ^21;rules 2 3 40| = A 2
            """);
        edge("3: SHAKE is 0 to 9", """
            load |chase 50 1 5 4 2;rules ^-1 3 999;row 0 50| = A 1
            load |chase 50 1 5 4 2;rules 0 3 999;row 0 50| = 0
            setting 3 = 0
            print 100 = 100
            row 0 5 = 0
            load |chase 50 1 5 4 2;rules 9 3 999;row 0 50| = 0
            setting 3 = 9
            print 1 = 1
            row 0 5 = 9
            load |chase 50 1 5 4 2;rules ^10 3 999;row 0 50| = A 2
            """);
        edge("3: DRY is 0 to 9", """
            load |chase 50 1 5 4 2;rules 2 ^-1 999;wood 50 1| = A 1
            load |chase 50 1 5 4 2;rules 2 0 999;wood 50 1| = 1
            setting 4 = 0
            put 0 0 = 0
            rest 100 = 0
            row 0 5 = 0
            load |chase 50 1 5 4 2;rules 2 9 999;wood 50 1| = 1
            setting 4 = 9
            put 0 0 = 0
            rest 1 = 0
            row 0 5 = 9
            load |chase 50 1 5 4 2;rules 2 ^10 999;wood 50 1| = A 2
            """);
        edge("3: HOLD is 1 to 999; a number of four digits is none", """
            load |chase 50 1 5 4 2;rules 2 3 ^0| = A 2
            load |chase 50 1 5 4 2;rules 2 3 1| = 0
            setting 5 = 1
            load |chase 50 1 5 4 2;rules 2 3 999| = 0
            setting 5 = 999
            load |chase 50 1 5 4 2;rules 2 3 ^1000| = A 1
            """);
        edge("1.1: the length of a kind is 1 to 99, of wood and of metal", """
            load |chase 50 1 5 4 2;rules 2 3 40;wood ^0 5| = A 2
            load |chase 50 1 5 4 2;rules 2 3 40;wood 1 5| = 1
            kind 0 1 = 1
            load |chase 50 1 5 4 2;rules 2 3 40;wood 99 5| = 1
            kind 0 1 = 99
            load |chase 50 1 5 4 2;rules 2 3 40;wood ^100 5| = A 2
            load |chase 50 1 5 4 2;rules 2 3 40;metal ^0 5| = A 2
            load |chase 50 1 5 4 2;rules 2 3 40;metal 1 5| = 1
            kind 0 1 = 1
            load |chase 50 1 5 4 2;rules 2 3 40;metal 99 5| = 1
            kind 0 1 = 99
            load |chase 50 1 5 4 2;rules 2 3 40;metal ^100 5| = A 2
            """);
        edge("4: MANY is 0 to 99, of wood and of metal", """
            load |chase 50 1 5 4 2;rules 2 3 40;wood 5 ^-1| = A 1
            load |chase 50 1 5 4 2;rules 2 3 40;wood 5 0| = 1
            kind 0 2 = 0
            load |chase 50 1 5 4 2;rules 2 3 40;wood 5 99| = 1
            kind 0 2 = 99
            load |chase 50 1 5 4 2;rules 2 3 40;wood 5 ^100| = A 2
            load |chase 50 1 5 4 2;rules 2 3 40;metal 5 0| = 1
            kind 0 2 = 0
            load |chase 50 1 5 4 2;rules 2 3 40;metal 5 99| = 1
            kind 0 2 = 99
            load |chase 50 1 5 4 2;rules 2 3 40;metal 5 ^100| = A 2
            """);
        edge("4: ROW is 0 to ROWS less 1", """
            load |chase 50 1 5 4 2;rules 2 3 40;row ^-1 5| = A 1
            load |chase 50 1 5 4 2;rules 2 3 40;row 0 5| = 0
            row 0 7 = 5
            load |chase 50 1 5 4 2;rules 2 3 40;row ^1 5| = A 2
            load |chase 50 3 5 4 2;rules 2 3 40;row 2 5| = 0
            row 2 7 = 5
            load |chase 50 3 5 4 2;rules 2 3 40;row ^3 5| = A 2
            load |chase 50 8 5 4 2;rules 2 3 40;row 7 5| = 0
            row 7 7 = 5
            load |chase 50 8 5 4 2;rules 2 3 40;row ^8 5| = A 2
            load |chase 50 8 5 4 2;rules 2 3 40;row ^999 5| = A 2
            """);
        edge("1.1: the length of a block is 1 to 200", """
            load |chase 500 1 5 4 2;rules 2 3 40;row 0 ^0| = A 2
            load |chase 500 1 5 4 2;rules 2 3 40;row 0 1 200 1| = 0
            block 0 0 = 1
            block 0 1 = 200
            block 0 2 = 1
            load |chase 500 1 5 4 2;rules 2 3 40;row 0 ^201| = A 2
            load |chase 500 1 5 4 2;rules 2 3 40;row 0 7 ^0| = A 2
            load |chase 500 1 5 4 2;rules 2 3 40;row 0 7 ^201| = A 2
            """);
    }

    private static void tokens() {
        edge("4: words have 1 to 6 letters; with more they are no token, at their first byte", """
            load |^c| = A 1
            load |^chases 50| = A 1
            load |^chasess 50| = A 1
            load |chase 50 3 5 4 2;^rulesss 2 3 40| = A 1
            load |HEAD;^metalll 5 9| = A 1
            load |HEAD;^rowwood 1| = A 1
            load |HEAD;metal 5 9| = 1
            """);
        edge("4: numbers have 1 to 3 digits; leading zeros count as digits", """
            load |chase 050 003 005 004 002;rules 002 003 040;wood 005 009;row 000 020 001| = 1
            setting 0 = 50
            count 0 = 3
            setting 1 = 5
            setting 2 = 4
            count 2 = 2
            setting 3 = 2
            setting 4 = 3
            setting 5 = 40
            kind 0 1 = 5
            kind 0 2 = 9
            block 0 0 = 20
            block 0 1 = 1
            load |chase 10 1 1 000 00;rules 0 0 01| = 0
            load |chase ^0050 3 5 4 2;rules 2 3 40| = A 1
            load |chase 50 3 5 ^0000 2;rules 2 3 40| = A 1
            load |chase ^5000| = A 1
            load |chase ^4294967346 3| = A 1
            load |HEAD;row 0 5 ^0005| = A 1
            load |HEAD;wood 5 ^0009| = A 1
            """);
        edge("4: blanks only separate tokens, ahead of, between and behind them", """
            load |  chase  50   3 5 4    2  ;  rules 2 3 40  ;  wood  5   9 ; row  0  7 ; row 1 | = 1
            block 0 0 = 7
            load |HEAD    | = 0
            load |HEAD;   ^| = A 1
            """);
        edge("4: a run of letters ends at the first byte that is no lower-case letter, a run of digits at"
            + " the first that is no digit", """
            load |chase50 3 5 4 2;rules2 3 40;wood10 3;metal7 1;row0 20;row1| = 2
            kind 0 1 = 10
            block 0 0 = 20
            load |chase 50 3 5 4 2;rules 2 3 40;wood 10 3 ^metal 7 1| = A 1
            load |chase 50 3 5 4 2;rules 2 3 40;wood 10 3^metal 7 1| = A 1
            load |chase 50^a 3 5 4 2| = A 1
            load |^chasE 50| = A 1
            load |^Chase 50| = A 1
            load |^chasechase 50| = A 1
            load |^cha se 50| = A 1
            load |chase ^5 0 3 5 4 2| = A 2
            """);
        edge("4: the first and the last lower-case letter and digit, and the bytes beside them", """
            load |chase 50 3 5 4 2;rules 0 9 909;metal 90 9| = 1
            load |chase^{96} 50 3 5 4 2| = A 1
            load |chase^{123} 50 3 5 4 2| = A 1
            load |^chase{122} 50 3 5 4 2| = A 1
            load |^chase{97} 50 3 5 4 2| = A 1
            load |chase 50^{47} 3 5 4 2| = A 1
            load |chase 50^{58} 3 5 4 2| = A 1
            load |chase ^50{48}0 3 5 4 2| = A 1
            load |chase ^50{57}0 3 5 4 2| = A 1
            """);
        edge("4: the bytes beside the blank and the semicolon, and others, start no token", """
            load |chase^{31}50 3 5 4 2| = A 1
            load |chase^{33}50 3 5 4 2| = A 1
            load |chase 50 3 5 4 2^{58}rules| = A 1
            load |chase 50 3 5 4 2^{60}rules| = A 1
            load |chase^{0}50| = A 1
            load |chase^{9}50| = A 1
            load |chase^{10}50| = A 1
            load |chase^{13}50| = A 1
            load |chase^{127}50| = A 1
            load |chase^{128}50| = A 1
            load |chase^{160}50| = A 1
            load |chase^{255}50| = A 1
            load |^{67}hase 50| = A 1
            load |^-| = A 1
            """);
    }

    private static void grammar() {
        edge("4, error 1: a word that differs from one of the grammar in its first or its last letter", """
            load |^phase 50| = A 1
            load |^chast 50| = A 1
            load |^chas 50| = A 1
            load |chase 50 3 5 4 2;^gules 2 3 40| = A 1
            load |chase 50 3 5 4 2;^ruler 2 3 40| = A 1
            load |HEAD;^food 5 9| = A 1
            load |HEAD;^wool 5 9| = A 1
            load |HEAD;^petal 5 9| = A 1
            load |HEAD;^metas 5 9| = A 1
            load |HEAD;^now 0| = A 1
            load |HEAD;^rob 0| = A 1
            """);
        edge("4, error 1: a token that the grammar does not allow here, in the first line", """
            load |^50| = A 1
            load |^;| = A 1
            load |^rules| = A 1
            load |^wood 5 9| = A 1
            load |chase ^chase 50| = A 1
            load |chase^;| = A 1
            load |chase 50 ^x| = A 1
            load |chase 50^;| = A 1
            load |chase 50 3 ^x| = A 1
            load |chase 50 3^;| = A 1
            load |chase 50 3 5^;| = A 1
            load |chase 50 3 5 4^;| = A 1
            load |chase 50 3 5 4 2 ^1;| = A 1
            load |chase 50 3 5 4 2 ^rules 2 3 40| = A 1
            """);
        edge("4, error 1: a token that the grammar does not allow here, in the rules", """
            load |chase 50 3 5 4 2;^;rules 2 3 40| = A 1
            load |chase 50 3 5 4 2;^2 3 40| = A 1
            load |chase 50 3 5 4 2;^wood 5 9| = A 1
            load |chase 50 3 5 4 2;^row 0| = A 1
            load |chase 50 3 5 4 2;rules ^rules| = A 1
            load |chase 50 3 5 4 2;rules^;| = A 1
            load |chase 50 3 5 4 2;rules 2^;| = A 1
            load |chase 50 3 5 4 2;rules 2 3^;wood 5 9| = A 1
            load |chase 50 3 5 4 2;rules 2 3 40 ^1| = A 1
            load |chase 50 3 5 4 2;rules 2 3 40 ^wood 5 9| = A 1
            """);
        edge("4, error 1: a token that the grammar does not allow here, in a line", """
            load |HEAD;^;| = A 1
            load |HEAD;^5 9| = A 1
            load |HEAD;^chase 50| = A 1
            load |HEAD;^rules 2 3 40| = A 1
            load |HEAD;^woods 5 9| = A 1
            load |HEAD;^woo 5 9| = A 1
            load |HEAD;wood ^wood| = A 1
            load |HEAD;wood^;| = A 1
            load |HEAD;wood 5^;| = A 1
            load |HEAD;wood 5 ^metal| = A 1
            load |HEAD;wood 5 9 ^9| = A 1
            load |HEAD;metal^;| = A 1
            load |HEAD;metal 5^;| = A 1
            load |HEAD;metal 5 9 ^row 0| = A 1
            load |HEAD;row^;| = A 1
            load |HEAD;row ^wood 5 9| = A 1
            load |HEAD;row 0 ^wood 5 9| = A 1
            load |HEAD;row 0 7 ^row 1| = A 1
            load |HEAD;row 0;^;row 1| = A 1
            """);
        edge("4, error 1: the end of the text where a line is not complete, at the number of bytes", """
            load |^| = A 1
            load |   ^| = A 1
            load |chase^| = A 1
            load |chase  ^| = A 1
            load |chase 50^| = A 1
            load |chase 50 3^| = A 1
            load |chase 50 3 5^| = A 1
            load |chase 50 3 5 4^| = A 1
            load |chase 50 3 5 4 2^| = A 1
            load |chase 50 3 5 4 2;^| = A 1
            load |chase 50 3 5 4 2;rules^| = A 1
            load |chase 50 3 5 4 2;rules 2^| = A 1
            load |chase 50 3 5 4 2;rules 2 3^| = A 1
            load |chase 50 3 5 4 2;rules 2 3   ^| = A 1
            load |chase 50 3 5 4 2;rules 2 3 40| = 0
            load |chase 50 3 5 4 2;rules 2 3 40   | = 0
            """);
        edge("4, error 1: the end of the text where a line is not complete, behind the rules", """
            load |HEAD;^| = A 1
            load |HEAD;wood^| = A 1
            load |HEAD;wood 5^| = A 1
            load |HEAD;wood 5 9| = 1
            load |HEAD;metal^| = A 1
            load |HEAD;metal 5 ^| = A 1
            load |HEAD;metal 5 9| = 1
            load |HEAD;row^| = A 1
            load |HEAD;row 0| = 0
            load |HEAD;row 0 7| = 0
            load |HEAD;row 0 7;^| = A 1
            """);
        edge("4: a row line may have no LENGTH; lines may come in any order", """
            load |HEAD;row 2;wood 5 9;row 0 7;metal 5 1;row 1 3 4| = 2
            row 2 0 = 0
            row 0 0 = 1
            row 1 0 = 2
            block 1 0 = 3
            block 1 1 = 4
            kind 0 0 = 0
            kind 1 0 = 1
            """);
    }

    private static void codes() {
        edge("4, error 3: the LENGTH of a kind that is told already; wood and metal are different", """
            load |HEAD;wood 5 9;metal 5 9;wood 6 9;metal 4 9| = 4
            load |HEAD;wood 5 9;wood ^5 9| = A 3
            load |HEAD;metal 5 9;metal ^5 9| = A 3
            load |HEAD;metal 5 9;wood 5 9;metal ^5 9| = A 3
            load |HEAD;wood 5 0;wood ^5 9| = A 3
            load |HEAD;wood 5 9;wood ^005 9| = A 3
            load |HEAD;wood 5 9;wood 6 9;wood 7 9;wood ^5 9| = A 3
            load |HEAD;wood 5 9;wood 6 9;wood 7 9;wood ^7 9| = A 3
            load |HEAD;wood 5 9;wood ^5| = A 3
            load |HEAD;wood 5 9;wood ^5 100| = A 3
            """);
        edge("4, error 3: a ROW that has a row line already", """
            load |HEAD;row 0 7;row 1 7;row 2 7| = 0
            load |HEAD;row 0 7;row ^0 7| = A 3
            load |HEAD;row 0;row ^0| = A 3
            load |HEAD;row 0;row ^000| = A 3
            load |HEAD;row 2;row 1;row 0;row ^2| = A 3
            load |HEAD;row 2 7;row 1;row ^2 99| = A 3
            load |HEAD;row 0 7;wood 5 9;row ^0 7| = A 3
            load |HEAD;row 0 7| = 0
            load |HEAD;row 0 7| = 0
            """);
        edge("4, error 4: the first word of an 11th kind, and not that of a row line", """
            load |TEN| = 10
            kind 9 2 = 10
            load |TEN;^wood 9 9| = A 4
            load |TEN;^metal 9 9| = A 4
            load |TEN;^wood 1 9| = A 4
            load |TEN;^wood| = A 4
            load |TEN;^woods 9 9| = A 1
            load |TEN;^metalll 9 9| = A 1
            load |TEN;row 0 7| = 10
            load |TEN;row 0 7;^wood 9 9| = A 4
            """);
        edge("4, error 4: the seventh LENGTH of a row line", """
            load |HEAD;row 0 1 2 3 4 5 6| = 0
            row 0 0 = 6
            block 0 5 = 6
            load |HEAD;row 0 1 2 3 4 5 6 ^7| = A 4
            load |HEAD;row 0 1 1 1 1 1 1;row 2 1 1 1 1 1 1 ^1| = A 4
            load |HEAD;row 0 1 1 1 1 1 1;row 2 1 1 1 1 1 1;row 1| = 0
            load |HEAD;row 0 1 1 1 1 1 1 ^1 1 1| = A 4
            """);
        edge("4, error 5: the LENGTH of a block by which the gap of its row would be below 0", """
            load |HEAD;row 0 50| = 0
            row 0 3 = 0
            load |HEAD;row 0 ^51| = A 5
            load |HEAD;row 0 ^200| = A 5
            load |HEAD;row 0 30 20| = 0
            load |HEAD;row 0 30 ^21| = A 5
            load |HEAD;row 0 30 19 1| = 0
            load |HEAD;row 0 30 20 ^1| = A 5
            load |HEAD;row 0 50;row 1 50;row 2 50| = 0
            load |HEAD;row 0 50;row 1 ^51| = A 5
            load |chase 500 1 5 4 2;rules 2 3 40;row 0 200 200 100| = 0
            load |chase 500 1 5 4 2;rules 2 3 40;row 0 200 200 ^101| = A 5
            """);
        edge("4: of several errors at a token the smallest code is reported", """
            load |HEAD;row 0 1 1 1 1 1 1 ^0| = A 2
            load |HEAD;row 0 1 1 1 1 1 1 ^201| = A 2
            load |HEAD;row 0 1 1 1 1 1 1 ^1000| = A 1
            load |HEAD;row 0 10 10 10 10 5 5 ^1| = A 4
            load |HEAD;row 0 1 1 1 1 1 1 ^45| = A 4
            load |HEAD;row 0 ^201| = A 2
            load |HEAD;row 0 ^1000| = A 1
            load |HEAD;row 0 50 ^0| = A 2
            load |HEAD;row 0;row ^3| = A 2
            load |HEAD;wood 99 1;wood ^100 1| = A 2
            load |HEAD;wood 5 ^1000| = A 1
            """);
        edge("4: parsing stops at the first token, from the left, at which an error is found", """
            load |chase ^9 9 99 99 99;rules 99| = A 2
            load |chase 50 ^9 99 #| = A 2
            load |HEAD;row 0 ^51 0;row 9| = A 5
            load |HEAD;wood 5 ^100;;| = A 2
            load |HEAD;wood 5 9;wood ^5 x| = A 3
            load |^; chase 9| = A 1
            """);
        edge("4: at first rows have no pieces and no quoins, and no slack", """
            chase 50 3 5 4 2;rules 2 3 40;wood 5 9;row 0 7
            row 0 1 = 0
            row 0 4 = -1
            row 0 5 = 0
            row 0 8 = -1
            row 2 0 = 0
            row 2 1 = 0
            row 2 4 = -1
            row 2 5 = 0
            """);
    }

    public static void main(String[] args) {
        newObject();
        buffer();
        load();
        errorsTold();
        bounds();
        tokens();
        grammar();
        codes();
        Script.end();
    }
}
