/** The edges of promises 53 to 56 and of the 512 calls: undo, save and restore, a script for each sentence. */
public final class HistoryEdgesTest {
    private static final String CHASE = """
            chase 60 2 5 4 1;rules 0 0 999;wood 1 9;wood 2 9
            """;

    private static void undo() {
        Script.edge("53: there is none: before a text, behind one, behind the last", """
            undo = S
            undoable = 0
            """ + CHASE + """
            undo = S
            undoable = 0
            put 0 0 = 59
            undo = 0
            undo = S
            row 0 3 = 60
            """);
        Script.edge("53, 54: eight changes, all of which can be undone, the latest first", CHASE + """
            put 0 0 = 59
            put 0 1 = 57
            put 0 0 = 56
            put 0 1 = 54
            put 0 0 = 53
            put 0 1 = 51
            put 0 0 = 50
            undoable = 7
            put 0 1 = 48
            undoable = 8
            undo = 7
            row 0 3 = 50
            undo = 6
            row 0 3 = 51
            undo = 5
            row 0 3 = 53
            undo = 4
            row 0 3 = 54
            undo = 3
            row 0 3 = 56
            undo = 2
            row 0 3 = 57
            undo = 1
            row 0 3 = 59
            undo = 0
            row 0 3 = 60
            undo = S
            """);
        Script.edge("5: only the latest 8 changes are kept: of nine the first stays", CHASE + """
            put 0 1 = 58
            8 times put 0 0
            row 0 3 = 50
            undoable = 8
            7 times undo
            row 0 3 = 57
            undo = 0
            row 0 3 = 58
            undo = S
            row 0 3 = 58
            """);
        Script.edge("5: only the latest 8 changes are kept: of twenty, with some undone in between", CHASE + """
            9 times put 0 0
            undo = 7
            undo = 6
            row 0 3 = 53
            put 0 1 = 51
            undoable = 7
            put 0 1 = 49
            undoable = 8
            put 0 1 = 47
            undoable = 8
            6 times put 0 1
            row 0 3 = 35
            undoable = 8
            undo = 7
            row 0 3 = 37
            6 times undo
            row 0 3 = 49
            undo = 0
            row 0 3 = 51
            undo = S
            """);
        Script.edge("5: each change that succeeds is one, even if nothing is different then", CHASE + """
            unlock 0 = 0
            undoable = 1
            quoin 0 true = 55
            open 0 0 = 55
            undoable = 3
            tighten 0 = 0
            undoable = 4
            print 1 = 1
            rest 1 = 0
            undoable = 6
            place 1 1 = 59
            relock 1 = A
            undoable = 7
            unlock 1 = 0
            undoable = 8
            undo = 7
            undo = 6
            row 1 3 = 60
            row 0 4 = 0
            4 times undo
            row 0 4 = 0
            undo = 1
            row 0 4 = -1
            """);
        Script.edge("54: a call that is refused, a look, a text and a save are no changes", CHASE + """
            put 0 0
            put 0 2 = I
            put 0 -1 = I
            place 0 60 = A
            lock 1 = A
            print 101 = A
            choice 0 0 = -1
            goodIn 5 = 5
            lockedAll = 0
            freshChoice 0 = -1
            writeStock = "w1:8,w2:9"
            save 0 = 0
            load |chase ^9| = A 2
            undoable = 1
            undo = 0
            row 0 3 = 60
            """);
        Script.edge("5: changes since the last successful call of load", CHASE + """
            3 times put 0 0
            undoable = 3
            load |chase ^9| = A 2
            load 1 = I
            undoable = 3
            chase 50 1 5 4 1;rules 0 0 999;wood 1 9
            undoable = 0
            undo = S
            put 0 0 = 49
            undoable = 1
            undo = 0
            setting 0 = 50
            row 0 3 = 50
            undo = S
            """);
        Script.edge("53: all that was there comes back: slack, take-up, opening, stock, counts", """
            chase 20 2 5 4 1;rules 5 1 30;wood 1 9;row 0 14;row 1 20
            put 0 0
            quoin 0 true = 0
            print 2 = 1
            tighten 0 = 0
            rest 1 = 0
            # both rows fall, one after the other
            print 6 = 0
            count 10 = 2
            count 2 = 1
            undo = 5
            count 10 = 0
            row 0 5 = 1
            row 0 4 = 1
            row 0 8 = 1
            count 2 = 0
            count 8 = 1
            undo = 4
            row 0 5 = 0
            count 8 = 0
            undo = 3
            row 0 5 = 10
            row 0 4 = 0
            row 0 8 = 0
            undo = 2
            row 0 5 = 0
            row 1 5 = 0
            count 6 = 0
            count 7 = 0
            """);
    }

    private static void saves() {
        Script.edge("55: slot is 0 or 1", CHASE + """
            save min = I
            save -1 = I
            save 0 = 0
            save 1 = 0
            save 2 = I
            save max = I
            """);
        Script.edge("55: returns the number of impressions", CHASE + """
            save 0 = 0
            print 7
            save 0 = 7
            print 100
            save 1 = 107
            restore 0 = 7
            restore 1 = 107
            """);
        Script.edge("55: in place of what was saved there, and not of what is in the other slot", CHASE + """
            put 0 0 = 59
            save 0 = 0
            put 0 1 = 57
            save 1 = 0
            put 0 0 = 56
            save 0 = 0
            restore 1 = 0
            row 0 3 = 57
            restore 0 = 0
            row 0 3 = 56
            """);
        Script.edge("55: what can be undone is not saved, and is not changed by a save", CHASE + """
            put 0 0 = 59
            put 0 0 = 58
            save 0 = 0
            undoable = 2
            undo = 1
            row 0 3 = 59
            restore 0 = 0
            row 0 3 = 58
            undoable = 0
            undo = S
            """);
        Script.edge("55: the input buffer, parseError() and errorPosition() are not saved", CHASE + """
            load |chase ^9| = A 2
            type |chase|
            save 0 = 0
            load 0 = A
            type |chase 50 1 5 4 1;rules 0 0 999|
            restore 0 = 0
            parseError = 1
            errorPosition = 0
            buffered = 40
            load 29 = 0
            setting 0 = 50
            """);
        Script.edge("56: slot is 0 or 1, ahead of what is saved there", """
            restore min = I
            restore -1 = I
            restore 2 = I
            restore max = I
            restore 0 = S
            restore 1 = S
            """ + CHASE + """
            restore -1 = I
            restore 2 = I
            restore 0 = S
            restore 1 = S
            save 1 = 0
            restore 0 = S
            restore 1 = 0
            restore 2 = I
            """);
        Script.edge("56: it stays saved, whatever is changed behind the restore", CHASE + """
            place 0 7 = 53
            save 1 = 0
            restore 1 = 0
            place 0 3 = 50
            buy 0 1 = 10
            quoin 1 true = 55
            print 3
            restore 1 = 0
            writeRow 0 = "[7]"
            writeRow 1 = ""
            kind 0 2 = 9
            count 2 = 1
            count 6 = 0
            restore 1 = 0
            writeRow 0 = "[7]"
            """);
        Script.edge("56: nothing can be undone afterwards, until the next change", CHASE + """
            save 0 = 0
            9 times put 0 0
            restore 0 = 0
            undoable = 0
            undo = S
            put 0 1 = 58
            undoable = 1
            undo = 0
            row 0 3 = 60
            undo = S
            """);
        Script.edge("56: behind undo what was saved is as it was", CHASE + """
            put 0 0 = 59
            save 0 = 0
            undo = 0
            row 0 3 = 60
            restore 0 = 0
            row 0 3 = 59
            """);
        Script.edge("3, 56: by a load nothing is saved any more, by one that failed it is", CHASE + """
            save 0 = 0
            save 1 = 0
            load |chase ^9| = A 2
            restore 0 = 0
            restore 1 = 0
            chase 50 1 5 4 1;rules 0 0 999
            restore 0 = S
            restore 1 = S
            save 0 = 0
            restore 0 = 0
            setting 0 = 50
            restore 1 = S
            """);
    }

    /** Behind each of these lines Script looks at all: rows, text, buffer, what can be undone and what is saved. */
    private static void refused() {
        Script.edge("5: a call that throws an exception changes nothing", """
            chase 20 3 5 4 1;rules 5 1 900;wood 3 9;metal 2 1;wood 30 1;row 0 9;row 1 1 1 1 1 1 1
            quoin 0 true = 6
            print 1 = 0
            save 0 = 1
            put 0 0 = 3
            put 2 1 = 18
            writeStock = "w3:8,m2:0,w30:1"
            load |chase ^9| = A 2
            type |chase 30 1 5 4 1;rules 2 3 40|
            load -1 = I
            load 41 = I
            count 12 = A
            setting 6 = A
            row 3 0 = I
            row 0 9 = A
            block 3 0 = I
            block 2 0 = I
            piece 3 0 = I
            piece 1 0 = I
            kind 3 0 = I
            kind 0 4 = A
            isTight 3 = I
            choice 3 0 = I
            choice 0 4 = A
            chosen 3 0 = I
            chosen 0 3 = I
            ways 3 = I
            nearest 3 = I
            fewestAt 3 1 = I
            fewestAt 0 0 = A
            rowFor 201 = A
            missing 3 = I
            canPut 3 0 = I
            canPut 0 3 = I
            freshChoice 3 = I
            fillable 21 = A
            fallsIn 3 true = I
            goodIn 201 = A
            writeRow 3 = I
            writeChoice 3 = I
            textByte 99 = I
            place 3 1 = I
            place 0 0 = A
            place 0 4 = A
            place 1 1 = A
            lift 3 0 = I
            lift 0 1 = I
            put 3 0 = I
            put 0 3 = I
            put 0 1 = A
            put 0 2 = A
            take 3 0 = I
            take 0 1 = I
            quoin 3 true = I
            quoin 0 true = A
            quoin 1 false = A
            quoin 1 true = A
            open 3 0 = I
            open 0 5 = A
            open 0 4 = A
            open 1 0 = A
            lock 3 = I
            lock 1 = A
            unlock 3 = I
            relock 3 = I
            relock 1 = A
            tighten 3 = I
            tighten 1 = A
            print 101 = A
            rest 101 = A
            buy 3 1 = I
            buy 0 92 = A
            save 2 = I
            restore 2 = I
            restore 1 = S
            undoable = 4
            buffered = 40
            """);
        Script.edge("5: an undo, a restore that is refused changes nothing", """
            chase 20 1 5 4 1;rules 5 1 900;wood 3 9
            save 1 = 0
            put 0 0 = 17
            undo = 0
            undo = S
            restore 0 = S
            restore -1 = I
            restore 1 = 0
            undo = S
            restore 0 = S
            """);
    }

    private static void calls() {
        Script.edge("an object is used for at most 512 calls: the last of them answers, too", """
            append 0x63686173 0x65203530 0x20312035 0x20342031 0x3b72756c = 20
            append 0x65732032 0x20332034 0x303b776f 0x6f642031 0x20392020 = 40
            load 38 = 1
            """ + "put 0 0 = 49 \n undo = 0 \n".repeat(254) + "undoable = 0");
    }

    public static void main(String[] args) {
        undo();
        saves();
        refused();
        calls();
        Script.end();
    }
}
