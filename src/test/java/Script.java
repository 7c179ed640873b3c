import java.lang.reflect.InvocationTargetException;
import java.lang.reflect.Method;
import java.util.ArrayList;
import java.util.HashMap;
import java.util.List;
import java.util.Map;
import java.util.Set;

/**
 * Runs scripts of calls, each on a new object. A line of a script is one call and, behind " = ", what it answers:
 *
 * <pre>
 * chase 50 1 5 4 1;rules 2 3 40   a text that is typed and loaded without an error
 * place 0 7 = 43                  an answer; min and max stand for the least and the greatest int
 * place 0 44 = A                  an exception: S IllegalState-, I IndexOutOfBounds-, A IllegalArgumentException
 * woodShare = 1/3                 a quotient in the type of the answer
 * writeRow 0 = "[7]"              a text: its number of bytes, each byte, and that there are no more of them
 * load |chase ^9| = A 2           a text that is typed and loaded: its error's code, its position where ^ stands;
 *                                 {n} in it stands for the byte n
 * type |chase|                    a text that is typed, filled up with blanks to 20 bytes or a multiple
 * 9 times put 0 1                 nine lines of this call
 * # how it comes about            no call
 * </pre>
 *
 * Besides the answers, each line is held against an object on which it was not called: a call that is refused and a
 * call that only looks leave all as it was, and undo brings back all that was ahead of a change.
 */
final class Script {
    private static final int MOST_CALLS = 512;
    private static final Set<String> CHANGES = Set.of(
        "place", "lift", "put", "take", "quoin", "open", "lock", "unlock", "relock", "tighten", "print", "rest", "buy");
    private static final Set<String> TEXTS = Set.of("writeRow", "writeChoice", "writeStock");
    /** What is neither a change that can be undone nor a look. */
    private static final Set<String> OTHERS = Set.of("append", "load", "undo", "save", "restore");
    private static final Map<String, Method> METHODS = new HashMap<>();
    private static int cases;
    private static int wrong;

    private Script() {
    }

    static {
        for (Method m : ChaseLocker.class.getDeclaredMethods()) {
            METHODS.put(m.getName(), m);
        }
    }

    /** Runs a script; the title names the sentence of the document that it is for. */
    static void edge(String title, String script) {
        cases++;
        List<Line> lines = new ArrayList<>();
        for (String line : script.split("\n")) {
            int end = line.indexOf(" times ");
            int times = isNoCall(line) ? 0 : end < 0 ? 1 : Integer.parseInt(line.substring(0, end).strip());
            for (int n = 0; n < times; n++) {
                lines.add(new Line(end < 0 ? line : line.substring(end + 7)));
            }
        }
        Run run = new Run();
        for (int i = 0; i < lines.size(); i++) {
            Line line = lines.get(i);
            String got = run.answer(line);
            if (line.due != null ? !got.equals(line.dueFor(got)) : isRefused(got)) {
                complain(title, line.told + ": answered " + got);
            }
            String other = otherThanDue(lines.subList(0, i), line, got);
            if (!other.isEmpty()) {
                complain(title, line.told + ": " + other);
            }
        }
        if (run.calls > MOST_CALLS) {
            complain(title, "more calls than the document allows: " + run.calls);
        }
    }

    private static boolean isNoCall(String line) {
        return line.isBlank() || line.strip().startsWith("#");
    }

    /** Ends the test: with exit code 1 if an answer was wrong. */
    static void end() {
        if (wrong != 0 || cases == 0) {
            System.out.println(wrong + " wrong in " + cases + " scripts");
            System.exit(1);
        }
    }

    private static void complain(String title, String what) {
        wrong++;
        System.out.println(title + "\n    " + what);
    }

    private static boolean isRefused(String answer) {
        return !answer.isEmpty() && "SIA?".indexOf(answer.charAt(0)) >= 0;
    }

    /** What a line did that it should not have done; empty if it did nothing of that sort. */
    private static String otherThanDue(List<Line> before, Line line, String answer) {
        boolean isChange = CHANGES.contains(line.call) && !isRefused(answer);
        if (OTHERS.contains(line.call) && !isRefused(answer) || line.call.equals("type")) {
            return "";
        }
        Run called = new Run();
        Run spared = new Run();
        for (Line l : before) {
            called.answer(l);
            spared.answer(l);
        }
        if (spared.calls > MOST_CALLS - 4) {
            return "";
        }
        int undoable = Integer.parseInt(spared.call("undoable"));
        called.answer(line);
        if (isChange) {
            String told = called.call("undoable");
            if (!told.equals("" + Math.min(8, undoable + 1))) {
                return told + " changes can be undone then";
            }
            called.call("undo");
        }
        boolean isLoad = line.call.equals("load");
        int mostCalls = MOST_CALLS - Math.max(called.calls, spared.calls);
        Look then = new Look(called, mostCalls);
        Look due = new Look(spared, mostCalls);
        for (Look look : new Look[] {then, due}) {
            look.atAll(!TEXTS.contains(line.call) || isRefused(answer), !isLoad || answer.equals("I"),
                !isChange || undoable < 8);
        }
        String what = isChange ? "undo brings back " : "it makes of ";
        return then.told().equals(due.told()) ? "" : what + due.told() + "\n    " + then.told();
    }

    /** One line of a script. */
    private static final class Line {
        final String told;
        final String call;
        /** What the call answers; null if that does not matter. */
        final String due;
        private final String[] words;
        /** The text to type, without the mark; null if none. */
        private final String typed;

        Line(String line) {
            told = line.strip();
            if (told.startsWith("chase ")) {
                typed = bytesOf(told);
                call = "load";
                words = new String[] {"load"};
                due = null;
                return;
            }
            int end = told.lastIndexOf('|');
            int behind = told.indexOf(" = ", Math.max(end, 0));
            String asked = behind < 0 ? told : told.substring(0, behind);
            words = asked.split(" ");
            call = words[0];
            String text = end < 0 ? null : bytesOf(told.substring(told.indexOf('|') + 1, end));
            int mark = text == null ? -1 : text.indexOf('^');
            typed = mark < 0 ? text : text.substring(0, mark) + text.substring(mark + 1);
            String answer = behind < 0 ? null : told.substring(behind + 3);
            due = mark < 0 ? answer : answer + " " + mark;
        }

        private static String bytesOf(String text) {
            StringBuilder b = new StringBuilder();
            for (int i = 0; i < text.length(); i++) {
                if (text.charAt(i) == '{') {
                    int end = text.indexOf('}', i);
                    b.append((char) Integer.parseInt(text.substring(i + 1, end)));
                    i = end;
                } else {
                    b.append(text.charAt(i));
                }
            }
            return b.toString();
        }

        /** What is due, in the form of an answer that was got. */
        String dueFor(String got) {
            int slash = due.indexOf('/');
            if (slash < 0 || due.startsWith("\"")) {
                return due;
            }
            int above = Integer.parseInt(due.substring(0, slash));
            int below = Integer.parseInt(due.substring(slash + 1));
            boolean isFloat = METHODS.get(call).getReturnType() == float.class;
            return isFloat ? Float.toString((float) above / (float) below)
                : Double.toString((double) above / (double) below);
        }

        Object[] arguments() {
            Class<?>[] types = METHODS.get(call).getParameterTypes();
            Object[] arguments = new Object[types.length];
            for (int i = 0; i < types.length; i++) {
                String word = words[i + 1];
                arguments[i] = types[i] == boolean.class ? (Object) word.equals("true")
                    : word.equals("min") ? Integer.MIN_VALUE
                    : word.equals("max") ? Integer.MAX_VALUE
                    : word.startsWith("0x") ? (int) Long.parseLong(word.substring(2), 16)
                    : Integer.parseInt(word);
            }
            return arguments;
        }
    }

    /** An object, and how often it was called. */
    private static final class Run {
        private final ChaseLocker locker = new ChaseLocker();
        int calls;

        String call(String name, Object... arguments) {
            calls++;
            try {
                return String.valueOf(METHODS.get(name).invoke(locker, arguments));
            } catch (InvocationTargetException e) {
                return nameOf(e.getCause().getClass());
            } catch (IllegalAccessException e) {
                return "? " + e;
            }
        }

        private static String nameOf(Class<?> thrown) {
            return thrown == IllegalStateException.class ? "S"
                : thrown == IndexOutOfBoundsException.class ? "I"
                : thrown == IllegalArgumentException.class ? "A"
                : "? " + thrown;
        }

        String answer(Line line) {
            if (line.typed != null) {
                type(line.typed);
                return line.call.equals("type") ? "" : loaded(line.typed.length());
            }
            String answer = call(line.call, line.arguments());
            boolean isText = line.due != null && line.due.startsWith("\"");
            return isText && !isRefused(answer) ? quoted(Integer.parseInt(answer)) : answer;
        }

        private void type(String text) {
            StringBuilder b = new StringBuilder(text);
            while (b.length() % 20 != 0) {
                b.append(' ');
            }
            for (int i = 0; i < b.length(); i += 20) {
                call("append", word(b, i), word(b, i + 4), word(b, i + 8), word(b, i + 12), word(b, i + 16));
            }
        }

        private static int word(CharSequence s, int i) {
            return s.charAt(i) << 24 | s.charAt(i + 1) << 16 | s.charAt(i + 2) << 8 | s.charAt(i + 3);
        }

        /** Behind each load of a text the buffer is empty, and the error is told. */
        private String loaded(int n) {
            String answer = call("load", n);
            String error = call("parseError");
            String place = call("errorPosition");
            String left = call("buffered");
            if (!left.equals("0")) {
                return "? " + answer + " and leaves " + left + " bytes";
            }
            if (answer.equals("A")) {
                return "A " + error + " " + place;
            }
            return error.equals("0") && place.equals("-1") ? answer : "? " + answer + " and tells error " + error;
        }

        private String quoted(int length) {
            StringBuilder b = new StringBuilder("\"");
            for (int i = 0; i < length && i < MOST_CALLS; i++) {
                b.append((char) Integer.parseInt(call("textByte", i)));
            }
            boolean isAll = call("textByte", -1).equals("I") && call("textByte", length).equals("I");
            return b.append(isAll ? "\"" : " and more").toString();
        }
    }

    /** All that an object tells, and what becomes of it by undo, restore and load. */
    private static final class Look {
        private final Run run;
        private final StringBuilder b = new StringBuilder();
        private int callsLeft;

        /** Looks with at most so many calls, as an object has an end. */
        Look(Run run, int mostCalls) {
            this.run = run;
            callsLeft = mostCalls;
        }

        String told() {
            return b.toString();
        }

        void atAll(boolean withText, boolean withInput, boolean withUndo) {
            for (int i = 0; withText && i < 60 && !ask("textByte", i).equals("I"); i++) {
                b.append(' ');
            }
            for (int i = 0; withInput && i < 3; i++) {
                ask(new String[] {"parseError", "errorPosition", "buffered"}[i]);
            }
            atChase();
            for (int n = withUndo ? number("undoable") : 0; n > 0; n--) {
                ask("undo");
                atShort();
            }
            for (int slot = 0; slot < 2; slot++) {
                if (ask("restore", slot).charAt(0) != 'S') {
                    atShort();
                }
            }
            if (withInput) {
                ask("load", number("buffered"));
                ask("errorPosition");
                atShort();
            }
        }

        private void atChase() {
            for (int what = 0; what < 6; what++) {
                ask("setting", what);
            }
            for (int kind = 0; kind < number("count", 1); kind++) {
                for (int what = 0; what < 4; what++) {
                    ask("kind", kind, what);
                }
            }
            for (int row = 0; row < number("count", 0); row++) {
                for (int what = 0; what < 9; what++) {
                    ask("row", row, what);
                }
                for (int i = 0; i < number("row", row, 0); i++) {
                    ask("block", row, i);
                }
                for (int i = 0; i < number("row", row, 1) && i < 10; i++) {
                    ask("piece", row, i);
                }
            }
            atShort();
        }

        private void atShort() {
            for (int what = 0; what < 12; what++) {
                ask("count", what);
            }
            for (int row = 0; row < number("count", 0) && row < 3; row++) {
                for (int what = 3; what < 6; what++) {
                    ask("row", row, what);
                }
            }
        }

        private int number(String name, Object... arguments) {
            callsLeft--;
            String answer = callsLeft < 0 ? "-1" : run.call(name, arguments);
            return isRefused(answer) ? -1 : Integer.parseInt(answer);
        }

        private String ask(String name, Object... arguments) {
            callsLeft--;
            String answer = callsLeft < 0 ? "." : run.call(name, arguments);
            b.append(answer).append(' ');
            return answer;
        }
    }
}
