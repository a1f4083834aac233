/** Counts and prints the answers that are not as due. */
final class Check {
    interface Call {
        void run();
    }

    private static int wrong = 0;
    private static int sentences = 0;

    private Check() {
    }

    /** Runs the one test that stands for a sentence of the document, or for a part of one. */
    static void sentence(String words, Call test) {
        int before = wrong;
        sentences++;
        try {
            test.run();
        } catch (RuntimeException e) {
            fail("a call that is due to answer threw " + e + " " + java.util.Arrays.toString(e.getStackTrace()));
        }
        if (wrong > before) {
            System.out.println("    so this does not hold: " + words);
        }
    }

    static void promise(int number, String words, Call test) {
        sentence("promise " + number + ": " + words, test);
    }

    static void same(String what, long got, long due) {
        if (got != due) {
            fail(what + " answered " + got + ", due is " + due);
        }
    }

    static void refuses(String what, Class<? extends RuntimeException> due, Call call) {
        Class<?> got = null;
        try {
            call.run();
        } catch (RuntimeException e) {
            got = e.getClass();
        }
        if (got != due) {
            fail(what + " threw " + (got == null ? "nothing" : got.getName()) + ", due is " + due.getName());
        }
    }

    static void refusesArgument(String what, Call call) {
        refuses(what, IllegalArgumentException.class, call);
    }

    static void refusesState(String what, Call call) {
        refuses(what, IllegalStateException.class, call);
    }

    static void refusesIndex(String what, Call call) {
        refuses(what, IndexOutOfBoundsException.class, call);
    }

    static void refusesElement(String what, Call call) {
        refuses(what, java.util.NoSuchElementException.class, call);
    }

    static void fail(String what) {
        wrong++;
        System.out.println(what);
    }

    static void end() {
        if (sentences > 0) {
            System.out.println(sentences + " sentences, or parts of one, tested");
        }
        System.out.println(wrong == 0 ? "all answers are as due" : wrong + " answers are not as due");
        if (wrong != 0) {
            System.exit(1);
        }
    }
}
