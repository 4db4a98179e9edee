import java.util.Objects;

/** What the tests say: an answer that is due, or an exception, of just this class, that is due. */
final class Check {
    interface Call {
        Object go();
    }

    static int wrong = 0;

    static void same(String what, Object due, Object got) {
        if (!Objects.equals(plain(due), plain(got))) {
            tell(what + " answered " + got + ", due is " + due);
        }
    }

    /** Not a subclass: what the machine itself throws is never due. */
    static void refuses(String what, Class<?> due, Call call) {
        try {
            tell(what + " answered " + call.go() + ", due is " + due.getSimpleName());
        } catch (RuntimeException e) {
            if (e.getClass() != due) {
                tell(what + " threw " + e + ", due is " + due.getSimpleName());
            }
        }
    }

    static void noIndex(String what, Call call) {
        refuses(what, IndexOutOfBoundsException.class, call);
    }

    static void badArgument(String what, Call call) {
        refuses(what, IllegalArgumentException.class, call);
    }

    static void badState(String what, Call call) {
        refuses(what, IllegalStateException.class, call);
    }

    static void unsupported(String what, Call call) {
        refuses(what, UnsupportedOperationException.class, call);
    }

    static void noElement(String what, Call call) {
        refuses(what, java.util.NoSuchElementException.class, call);
    }

    static void tell(String line) {
        wrong++;
        System.out.println("    " + line);
    }

    private static Object plain(Object answer) {
        if (answer instanceof Integer || answer instanceof Short || answer instanceof Byte) {
            return ((Number) answer).longValue();
        }
        return answer instanceof Float ? (Object) ((Float) answer).doubleValue() : answer;
    }

    private Check() {
    }
}
