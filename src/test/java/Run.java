import java.lang.reflect.InvocationTargetException;
import java.lang.reflect.Method;
import java.util.ArrayList;
import java.util.HashMap;
import java.util.List;
import java.util.Map;

/**
 * A run of calls on one new object, each written as the document writes it, for one sentence of the document. A wrong
 * answer is told with that sentence. No object gets more than the 512 calls that the document promises.
 */
final class Run {
    private static final int MOST_CALLS = 512;
    /** Behind these there is room for the questions that tell an object's state. */
    private static final int MOST_REPLAYED = 412;
    private static final Map<String, Method> FACE = face();

    private record Call(Method method, Object[] arguments) {
        static Call of(String call) {
            int open = call.indexOf('(');
            Method method = FACE.get(call.substring(0, open));
            String inside = call.substring(open + 1, call.length() - 1).trim();
            String[] numbers = inside.isEmpty() ? new String[0] : inside.split(", *");
            if (method == null || method.getParameterCount() != numbers.length) {
                throw new IllegalStateException("a test's own call is none of the face: " + call);
            }
            Object[] arguments = new Object[numbers.length];
            for (int i = 0; i < numbers.length; i++) {
                arguments[i] = Integer.parseInt(numbers[i]);
            }
            return new Call(method, arguments);
        }

        int on(LineOrigins x) {
            try {
                return (Integer) method.invoke(x, arguments);
            } catch (InvocationTargetException thrown) {
                throw new IllegalStateException("a call threw: " + method.getName(), thrown.getCause());
            } catch (IllegalAccessException hidden) {
                throw new IllegalStateException(hidden);
            }
        }
    }

    private final Check check;
    private final String sentence;
    private final LineOrigins x = new LineOrigins();
    private final List<Call> changing = new ArrayList<>();
    private int calls = 0;
    private String stateKnown = null;

    Run(Check check, String sentence) {
        this.check = check;
        this.sentence = sentence;
    }

    private static Map<String, Method> face() {
        Map<String, Method> face = new HashMap<>();
        for (Method method : LineOrigins.class.getDeclaredMethods()) {
            if (java.lang.reflect.Modifier.isPublic(method.getModifiers())) {
                face.put(method.getName(), method);
            }
        }
        return face;
    }

    private int ask(Call call) {
        calls++;
        if (calls > MOST_CALLS) {
            throw new IllegalStateException("a test's own run is too long: " + sentence);
        }
        return call.on(x);
    }

    /** Calls, whatever they answer. */
    Run then(String... all) {
        for (String one : all) {
            Call call = Call.of(one);
            changing.add(call);
            stateKnown = null;
            ask(call);
        }
        return this;
    }

    Run type(String text) {
        for (int i = 0; i < text.length(); i++) {
            then("type(" + (int) text.charAt(i) + ")");
        }
        return this;
    }

    /** REVISIONS told by this text, which has no FAULT. */
    Run told(String text) {
        type(text);
        Call history = Call.of("history()");
        changing.add(history);
        stateKnown = null;
        if (ask(history) < 0) {
            throw new IllegalStateException("a test's own text has a FAULT: " + text);
        }
        return this;
    }

    /** A call and the answer that is due. */
    Run due(String one, int want) {
        Call call = Call.of(one);
        changing.add(call);
        stateKnown = null;
        check.due(sentence + ": " + one, ask(call), want);
        return this;
    }

    /** A row of calls, % being 0, 1, .. in them, and the answers that are due. */
    Run row(String pattern, int... want) {
        for (int i = 0; i < want.length; i++) {
            due(pattern.replace("%", Integer.toString(i)), want[i]);
        }
        return this;
    }

    /** A call that is refused, or that only asks: the answer that is due, and nothing at all is changed. */
    Run leaves(String one, int want) {
        if (stateKnown == null) {
            stateKnown = state(changing);
        }
        Call call = Call.of(one);
        check.due(sentence + ": " + one, ask(call), want);
        List<Call> withIt = new ArrayList<>(changing);
        withIt.add(call);
        String state = state(withIt);
        check.due(sentence + ": " + one + " changes nothing", state.equals(stateKnown));
        return this;
    }

    /** The object is in every way as a new one that was told this text alone. */
    Run isAsTold(String text) {
        check.due(sentence + ": as told '" + text + "' alone",
                state(changing).equals(state(new Run(check, sentence).told(text).changing)));
        return this;
    }

    /** Calls that are all refused, one behind the other, as many on an object as it may have: nothing is changed. */
    Run leavesAll(List<String> all, int want) {
        String before = state(changing);
        int room = MOST_REPLAYED - changing.size();
        for (int from = 0; from < all.size(); from += room) {
            List<String> part = all.subList(from, Math.min(all.size(), from + room));
            List<Call> withThem = new ArrayList<>(changing);
            LineOrigins other = replayed(changing);
            for (String one : part) {
                Call call = Call.of(one);
                withThem.add(call);
                check.due(sentence + ": " + one, call.on(other), want);
            }
            boolean same = state(withThem).equals(before);
            check.due(sentence + ": " + part.get(0) + " .. " + part.get(part.size() - 1) + " change nothing", same);
        }
        return this;
    }

    /** Calls that are as told, each on an object of its own: none of them is BAD. */
    Run takesAll(List<String> all) {
        for (String one : all) {
            int answer = Call.of(one).on(replayed(changing));
            check.due(sentence + ": " + one + " is not BAD", answer != LineOrigins.BAD);
        }
        return this;
    }

    /** Everything that can be found out about an object behind these calls, each part of it on an object of its own. */
    private static String state(List<Call> calls) {
        StringBuilder all = new StringBuilder();
        List<Call> questions = questions(replayed(calls));
        int room = MOST_CALLS - calls.size();
        for (int from = 0; from < questions.size(); from += room) {
            LineOrigins x = replayed(calls);
            for (Call question : questions.subList(from, Math.min(questions.size(), from + room))) {
                all.append(question.on(x)).append(' ');
            }
        }
        return all.append(hidden(calls)).toString();
    }

    private static LineOrigins replayed(List<Call> calls) {
        if (calls.size() > MOST_REPLAYED) {
            throw new IllegalStateException("a test's own run is too long to look at its state");
        }
        LineOrigins x = new LineOrigins();
        for (Call call : calls) {
            call.on(x);
        }
        return x;
    }

    /** All questions that have an answer for the REVISIONS and LINES that there are. */
    private static List<Call> questions(LineOrigins x) {
        List<Call> all = new ArrayList<>();
        int revisions = x.count(0);
        add(all, "count(%)", 9);
        add(all, "unseen()", 1);
        for (int r = 0; r < revisions; r++) {
            add(all, "revision(" + r + ", %)", 4);
            add(all, "common(" + r + ", %)", 2);
            add(all, "begun(" + r + ", %)", revisions);
            add(all, "kept(" + r + ", %)", revisions);
            int lines = x.revision(r, 0);
            add(all, "age(" + r + ", %)", lines);
            add(all, "carried(" + r + ", %)", lines);
            for (int k = 0; k < lines; k++) {
                add(all, "line(" + r + ", " + k + ", %)", 7);
                add(all, "gives(%, " + r + ", " + k + ")", 4);
                add(all, "like(" + r + ", " + k + ", %)", revisions);
            }
        }
        return all;
    }

    private static void add(List<Call> all, String pattern, int number) {
        for (int i = 0; i < number; i++) {
            all.add(Call.of(pattern.replace("%", Integer.toString(i))));
        }
    }

    /** What shows only by changes: what may be UNDONE, what the IMAGES have, what was SEEN, the letters of THE TEXT. */
    private static String hidden(List<Call> calls) {
        StringBuilder all = new StringBuilder("; undo ");
        LineOrigins x = replayed(calls);
        for (int i = 0; i <= 10; i++) {
            all.append(x.undo()).append(' ').append(settings(x));
        }
        all.append("; images ");
        x = replayed(calls);
        for (int image = 0; image <= 1; image++) {
            all.append(x.back(image)).append(' ').append(settings(x));
        }
        all.append("; seen ");
        x = replayed(calls);
        for (int r = 0; r < x.count(0); r++) {
            x.passes(r);
            all.append(x.unseen()).append(' ');
        }
        all.append("; text ");
        x = replayed(calls);
        all.append(x.history()).append(' ').append(x.count(0)).append(' ').append(x.count(4)).append(' ');
        return all.toString();
    }

    private static String settings(LineOrigins x) {
        return x.count(1) + " " + x.count(2) + " " + x.count(3) + " ";
    }
}
