import java.lang.reflect.InvocationTargetException;
import java.lang.reflect.Method;
import java.util.ArrayList;
import java.util.HashMap;
import java.util.List;
import java.util.Map;

/**
 * An object and the calls that were made on it. Calls are told as texts, as
 * "step(0, 1)"; a row of them is parted by "; ", and may also have "worlds 1 2"
 * (with these letters), "steps 01 12" (from, to), "text EXa" (what is typed)
 * and "wish 0 EXa" (typed in an empty buffer and read). What is asked aside is
 * asked of a second object with the same calls, so that none goes beyond the
 * 512 calls that the document promises.
 */
final class Run {
    static final int NONE = -1;
    private static final int MOST_CALLS = 512;
    private static final int FARTHEST_PLACE = 111;
    private static final int LOOKED_AT_SIGNS = 12;
    private static final Map<String, Method> METHODS = methods();

    private final FutureWishes x = new FutureWishes();
    private final List<String> calls = new ArrayList<>();

    private Run() {
    }

    /** A new object with the calls of a row. */
    static Run of(String row) {
        return new Run().then(row);
    }

    static String many(String text, int times) {
        return text.repeat(times);
    }

    private static Map<String, Method> methods() {
        Map<String, Method> found = new HashMap<>();
        for (Method method : FutureWishes.class.getDeclaredMethods()) {
            if (java.lang.reflect.Modifier.isPublic(method.getModifiers())) {
                found.put(method.getName(), method);
            }
        }
        return found;
    }

    /** Calls whose answers are asked for nowhere; but none of them may throw. */
    Run then(String row) {
        for (String part : row.isEmpty() ? new String[0] : row.split("; ")) {
            String[] words = part.split(" ", 3);
            switch (words[0]) {
                case "worlds":
                    each(part, mask -> must("addWorld(" + mask + ")"));
                    break;
                case "steps":
                    each(part, pair -> must("step(" + pair.charAt(0) + ", " + pair.charAt(1) + ")"));
                    break;
                case "text":
                    type(words[1]);
                    break;
                case "wish":
                    must("clearBuffer()");
                    type(words[2]);
                    must("read(" + words[1] + ")");
                    break;
                default:
                    must(part);
                    break;
            }
        }
        return this;
    }

    private static void each(String part, java.util.function.Consumer<String> what) {
        String[] words = part.split(" ");
        for (int k = 1; k < words.length; k++) {
            what.accept(words[k]);
        }
    }

    private void type(String text) {
        for (int k = 0; k < text.length(); k++) {
            must("append(" + (int) text.charAt(k) + ")");
        }
    }

    private void must(String call) {
        String answer = ask(call);
        if (answer.startsWith("throws")) {
            Sentences.wrong(this + ": " + call + " " + answer);
        }
    }

    /** The answer of a call as a text, or "throws " and the exception's own name. */
    String ask(String call) {
        int open = call.indexOf('(');
        Method method = METHODS.get(call.substring(0, open));
        String inside = call.substring(open + 1, call.length() - 1);
        String[] words = inside.isEmpty() ? new String[0] : inside.split(", ?");
        Object[] numbers = new Object[words.length];
        for (int k = 0; k < words.length; k++) {
            numbers[k] = number(words[k]);
        }
        calls.add(call);
        if (calls.size() > MOST_CALLS) {
            Sentences.wrong("the test asks beyond the 512th call: " + call);
        }
        try {
            return method.invoke(x, numbers).toString();
        } catch (InvocationTargetException e) {
            return "throws " + e.getCause().getClass().getName().replace("java.lang.", "");
        } catch (IllegalAccessException e) {
            return "is hidden";
        }
    }

    private static int number(String word) {
        switch (word) {
            case "NONE":
                return NONE;
            case "MIN":
                return Integer.MIN_VALUE;
            case "MAX":
                return Integer.MAX_VALUE;
            default:
                return Integer.parseInt(word);
        }
    }

    int callsMade() {
        return calls.size();
    }

    Run due(String call, long want) {
        String before = toString();
        Sentences.due(before, call, Long.toString(want), ask(call));
        return this;
    }

    Run due(String call, double want) {
        String before = toString();
        Sentences.due(before, call, Double.toString(want), ask(call));
        return this;
    }

    /** Both give the same answer. */
    Run same(String call, Run other) {
        String before = toString();
        Sentences.due(before, call, other.ask(call), ask(call));
        return this;
    }

    Run index(String... refused) {
        return refused("IndexOutOfBoundsException", refused);
    }

    Run argument(String... refused) {
        return refused("IllegalArgumentException", refused);
    }

    Run state(String... refused) {
        return refused("IllegalStateException", refused);
    }

    /** The calls throw this exception, and all that can be asked stays as it was. */
    private Run refused(String exception, String[] refused) {
        String before = view();
        for (String call : refused) {
            String row = toString();
            Sentences.due(row, call, "throws " + exception, ask(call));
            Sentences.due(row + "; " + call, "what is looked at", before, view());
        }
        return this;
    }

    /** The call answers, and all that can be asked stays as it was. */
    Run changesNothing(String call) {
        String before = view();
        String row = toString();
        must(call);
        Sentences.due(row + "; " + call, "what is looked at", before, view());
        return this;
    }

    /** The call saves the state from before it, and undo brings that back; asked aside. */
    Run undoable(String call) {
        int saved = Integer.parseInt(again().ask("count(8)"));
        int then = Math.min(6, saved + 1);
        Run aside = again();
        aside.must(call);
        aside.due("count(8)", then);
        aside.due("undo()", then - 1);
        Sentences.due(toString() + "; " + call + "; undo()", "what is looked at", again().looks(), aside.looks());
        return this;
    }

    /** Where a wish holds, asked aside of the wish 3. */
    Run holds(String text, int want) {
        again().then("wish 3 " + text).due("wish(3, 1)", want);
        return this;
    }

    /** The rounds of a wish's first part alone, asked aside of the wish 3. */
    Run rounds(String text, int want) {
        again().then("wish 3 " + text).due("sign(3, 0, 2)", want);
        return this;
    }

    /** A whole witness as its digits, asked aside of the wish 3. */
    Run row(String text, int world, String want) {
        Run aside = again().then("wish 3 " + text);
        StringBuilder row = new StringBuilder();
        String next = aside.ask("witness(3, " + world + ", 0)");
        for (int place = 1; place <= FARTHEST_PLACE && next.length() == 1; place++) {
            row.append(next);
            next = aside.ask("witness(3, " + world + ", " + place + ")");
        }
        Sentences.due(toString(), "the witness of " + text + " in " + world, want + ", -1", row + ", " + next);
        for (String beyond : new String[] {"" + (row.length() + 1), "40", "60", "111", "MAX"}) {
            if (number(beyond) > row.length()) {
                aside.due("witness(3, " + world + ", " + beyond + ")", NONE);
            }
        }
        return this;
    }

    /** The text of a wish, asked aside sign by sign; "" if there is none. */
    Run told(int wish, String want) {
        Run aside = again();
        Sentences.due(toString(), "the text of the wish " + wish, want, aside.text(wish));
        return this;
    }

    private String text(int wish) {
        int signs = Math.max(0, Integer.parseInt(ask("wish(" + wish + ", 0)")));
        StringBuilder text = new StringBuilder();
        for (int sign = 0; sign < signs; sign++) {
            text.append((char) Integer.parseInt(ask("sign(" + wish + ", " + sign + ", 0)")));
        }
        return text.toString();
    }

    /** A second object with the same calls. */
    Run again() {
        Run other = new Run();
        for (String call : calls) {
            other.ask(call);
        }
        return other;
    }

    /** All that can be seen: now, and behind each undo that there could be. */
    private String view() {
        StringBuilder view = new StringBuilder();
        for (int undone = 0; undone <= 6; undone++) {
            Run aside = again();
            String left = "";
            for (int k = 0; k < undone; k++) {
                left = aside.ask("undo()");
            }
            view.append(left).append(": ").append(aside.looks()).append(aside.ask("count(8)")).append(' ')
                .append(aside.ask("digest()")).append(' ').append(aside.ask("firstError()")).append(' ')
                .append(aside.ask("read(3)")).append(' ').append(aside.ask("clearBuffer()")).append('\n');
            if (left.startsWith("throws")) {
                break;
            }
        }
        return view.toString();
    }

    /** What can be seen of the state, without the buffer and the saved states. */
    private String looks() {
        StringBuilder looks = new StringBuilder();
        for (int what = 0; what <= 7; what++) {
            looks.append(ask("count(" + what + ")")).append(' ');
        }
        int worlds = Integer.parseInt(ask("count(0)"));
        for (int world = 0; world < worlds; world++) {
            for (int what = 0; what <= 1; what++) {
                looks.append(ask("world(" + world + ", " + what + ")")).append(' ');
            }
        }
        for (int wish = 0; wish < 4; wish++) {
            for (int what = 0; what <= 3; what++) {
                looks.append(ask("wish(" + wish + ", " + what + ")")).append(' ');
            }
            int signs = Math.min(LOOKED_AT_SIGNS, Integer.parseInt(ask("wish(" + wish + ", 0)")));
            for (int sign = 0; sign < signs; sign++) {
                looks.append(ask("sign(" + wish + ", " + sign + ", 0)")).append(' ');
            }
        }
        return looks.toString();
    }

    @Override
    public String toString() {
        return "[" + String.join("; ", calls) + "]";
    }
}
