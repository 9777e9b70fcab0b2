/** What the tests ask of a call, and how many calls did not answer as is due. */
final class Check {
    static final Class<?> INDEX = IndexOutOfBoundsException.class;
    static final Class<?> ARGUMENT = IllegalArgumentException.class;
    static final Class<?> STATE = IllegalStateException.class;
    static final Class<?> NO_ELEMENT = java.util.NoSuchElementException.class;

    private static int calls = 0;
    private static int wrong = 0;

    interface Call {
        long answer();
    }

    interface Deed {
        void act();
    }

    private Check() {
    }

    /** The answer of a call as a text; a thrown exception is told by its very class. */
    static String told(Call call) {
        try {
            return Long.toString(call.answer());
        } catch (RuntimeException e) {
            return "throws " + e.getClass().getName();
        }
    }

    static void same(String name, String got, String want) {
        calls++;
        if (!got.equals(want)) {
            wrong++;
            System.out.println(name + ": answered " + got + ", due is " + want);
        }
    }

    static void due(String name, long want, Call call) {
        same(name, told(call), Long.toString(want));
    }

    static void refused(String name, Class<?> want, Call call) {
        same(name, told(call), "throws " + want.getName());
    }

    static void done(String name, Deed deed) {
        due(name, 0, () -> {
            deed.act();
            return 0;
        });
    }

    static void undone(String name, Class<?> want, Deed deed) {
        refused(name, want, () -> {
            deed.act();
            return 0;
        });
    }

    static void end(String test) {
        System.out.println(test + ": " + calls + " calls, " + wrong + " not as due");
        if (wrong != 0) {
            System.exit(1);
        }
    }
}
