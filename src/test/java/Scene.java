import java.lang.reflect.InvocationTargetException;
import java.lang.reflect.Method;
import java.util.NoSuchElementException;

/**
 * Calls told as texts, made on a new object for each question, so that a question never stands behind more than the
 * 512 calls for which the document holds. Beside the calls of the face ("move 0 4"; LEAST and MOST are the least and
 * greatest int) there are "tape TEXT" (fed), "estate TEXT" (fed, then text(0)) and "enact TEXT" (fed, then text(1)).
 */
final class Scene {
    private final String[] calls;

    private Scene(String[] calls) {
        this.calls = calls;
    }

    static Scene of(String... calls) {
        return new Scene(calls);
    }

    Scene then(String... more) {
        String[] all = java.util.Arrays.copyOf(calls, calls.length + more.length);
        System.arraycopy(more, 0, all, calls.length, more.length);
        return new Scene(all);
    }

    Scene times(int times, String call) {
        String[] more = new String[times];
        java.util.Arrays.fill(more, call);
        return then(more);
    }

    BeatenAfternoon made() {
        BeatenAfternoon x = new BeatenAfternoon();
        for (String call : calls) {
            answer(x, call);
        }
        return x;
    }

    /** One question on one new object. */
    void due(Check check, String why, String call, String want) {
        check.due(why + ": " + call, answer(made(), call), want);
    }

    /** Several questions on one new object, as "call = answer". */
    void dues(Check check, String why, String... rows) {
        BeatenAfternoon x = made();
        for (String row : rows) {
            int mark = row.lastIndexOf(" = ");
            String call = row.substring(0, mark);
            check.due(why + ": " + call, answer(x, call), row.substring(mark + 3));
        }
    }

    /** Refused without a STATUS. */
    void refused(Check check, String why, String call, String want) {
        refused(check, why, call, want, -1);
    }

    /** Refused: it answers so, one STATUS is one more, and nothing else has changed, nor what undo and back bring. */
    void refused(Check check, String why, String call, String want, int status) {
        due(check, why, call, want);
        String[][] behind = {{}, {"undo"}, {"undo", "undo"}, {"back"}};
        for (String[] more : behind) {
            BeatenAfternoon without = made();
            BeatenAfternoon with = made();
            answer(with, call);
            for (String next : more) {
                answer(without, next);
                answer(with, next);
            }
            String name = why + ": " + call + " " + String.join(" ", more);
            check.due(name + " changes nothing", told(with), told(without));
            for (int what = 0; what < 5; what++) {
                check.due(name + " status(" + what + ")", with.status(what), without.status(what) + (what == status ? 1 : 0));
            }
        }
    }

    static String answer(BeatenAfternoon x, String call) {
        if (call.startsWith("tape ")) {
            return "" + Check.feed(x, call.substring(5));
        }
        if (call.startsWith("estate ")) {
            Check.feed(x, call.substring(7));
            return "" + x.text(0);
        }
        if (call.startsWith("enact ")) {
            Check.feed(x, call.substring(6));
            return "" + x.text(1);
        }
        String[] words = call.split(" ");
        for (Method method : BeatenAfternoon.class.getDeclaredMethods()) {
            if (method.getName().equals(words[0]) && method.getParameterCount() == words.length - 1) {
                return answer(x, method, words);
            }
        }
        throw new IllegalArgumentException("no such call: " + call);
    }

    private static String answer(BeatenAfternoon x, Method method, String[] words) {
        Class<?>[] types = method.getParameterTypes();
        Object[] args = new Object[types.length];
        for (int i = 0; i < types.length; i++) {
            String word = words[i + 1];
            if (types[i] == boolean.class) {
                args[i] = Boolean.valueOf(word);
            } else if (types[i] == long.class) {
                args[i] = Long.valueOf(word);
            } else {
                args[i] = word.equals("LEAST") ? Integer.MIN_VALUE : word.equals("MOST") ? Integer.MAX_VALUE : Integer.parseInt(word);
            }
        }
        try {
            return "" + method.invoke(x, args);
        } catch (InvocationTargetException e) {
            if (e.getCause() instanceof NoSuchElementException) {
                return "throws";
            }
            throw new IllegalStateException(String.join(" ", words), e.getCause());
        } catch (IllegalAccessException e) {
            throw new IllegalStateException(e);
        }
    }

    /** All that can be seen without changing anything, but for STATUS. */
    static String told(BeatenAfternoon x) {
        StringBuilder all = new StringBuilder(Check.state(x));
        for (int thing = 0; thing < x.count(0); thing++) {
            for (int what = 0; what < 7; what++) {
                all.append(x.thing(thing, what)).append(what < 6 ? "," : " ");
            }
            all.append(x.taker(thing)).append(' ').append(x.lay(thing, -1)).append(' ');
        }
        return all.append(x.fault(0)).append(' ').append(x.fault(1)).toString();
    }
}
