import java.util.function.LongSupplier;

/** Counts the answers that are not the ones that are due, and ends the program accordingly. */
final class Check {
    private int looked;
    private int wrong;
    private String sentence = "";
    private int lookedBefore = -1;

    /** A call that may answer nothing. */
    interface Call {
        void run();
    }

    /** Names the document's sentence that the next looks are for; a sentence that nothing looks at is wrong. */
    void sentence(String where, String words) {
        endSentence();
        sentence = where + ", \"" + words + "\": ";
        lookedBefore = looked;
    }

    void due(String what, long want, LongSupplier call) {
        looked++;
        String got;
        try {
            got = Long.toString(call.getAsLong());
        } catch (RuntimeException e) {
            got = nameOf(e);
        }
        compare(what, Long.toString(want), got);
    }

    void isTrue(String what, boolean holds) {
        looked++;
        compare(what, "true", Boolean.toString(holds));
    }

    /** The very class is compared: what the machine throws is a class below the one that is due. */
    void refused(String what, Class<? extends RuntimeException> want, Call call) {
        looked++;
        String got = "no exception";
        try {
            call.run();
        } catch (RuntimeException e) {
            got = nameOf(e);
        }
        compare(what, want.getName(), got);
    }

    void unknown(String what, Call call) {
        refused(what, IllegalArgumentException.class, call);
    }

    void outOfRange(String what, Call call) {
        refused(what, IndexOutOfBoundsException.class, call);
    }

    void notInThisState(String what, Call call) {
        refused(what, IllegalStateException.class, call);
    }

    void noRoom(String what, Call call) {
        refused(what, UnsupportedOperationException.class, call);
    }

    void same(String what, String want, String got) {
        looked++;
        compare(what, want, got);
    }

    void end(String test) {
        endSentence();
        System.out.println(test + ": " + looked + " looked at, " + wrong + " wrong");
        if (wrong != 0 || looked == 0) {
            System.exit(1);
        }
    }

    private void endSentence() {
        if (looked == lookedBefore) {
            wrong++;
            System.out.println(sentence + "nothing looks at it");
        }
    }

    private void compare(String what, String want, String got) {
        if (!want.equals(got)) {
            wrong++;
            System.out.println(sentence + what + ": answered " + got + ", due is " + want);
        }
    }

    private static String nameOf(RuntimeException e) {
        return e.getClass().getName();
    }
}
