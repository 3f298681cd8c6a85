import java.util.function.LongSupplier;

/** Compares answers with those that are due, and tells at the end whether one was wrong. */
final class Checks {
    private static int wrong = 0;
    private static int made = 0;
    private static String sentence = "";
    private static int wrongOfSentence = 0;

    private Checks() {
    }

    /** The sentence of the document that the checks from here on stand for: each wrong answer is told with it. */
    static void sentence(String text) {
        sentence = text + " -- ";
        wrongOfSentence = 0;
    }

    /** Runs a test; an exception that it does not expect is a wrong answer, and no end for the tests behind it. */
    static void run(Runnable test) {
        sentence = "";
        wrongOfSentence = 0;
        part(test);
    }

    /** The same for a part of a test. */
    static void part(Runnable test) {
        try {
            test.run();
        } catch (RuntimeException e) {
            wrong("an unexpected " + e);
            e.printStackTrace(System.out);
        }
    }

    static void due(String what, long got, long want) {
        made++;
        if (got != want) {
            wrong("" + what + " answered " + got + ", due is " + want);
        }
    }

    static void due(String what, boolean got, boolean want) {
        due(what, got ? 1 : 0, want ? 1 : 0);
    }

    static void dueDouble(String what, double got, double want) {
        made++;
        if (Double.compare(got, want) != 0) {
            wrong("" + what + " answered " + got + ", due is " + want);
        }
    }

    /** The call throws exactly that class, and the object's digest stays as it was. */
    static void dueThrow(String what, SelfTuner x, Class<?> want, LongSupplier call) {
        made++;
        long before = x.digest();
        try {
            long got = call.getAsLong();
            wrong(what + " answered " + got + ", due is " + want.getSimpleName());
        } catch (RuntimeException e) {
            if (e.getClass() != want) {
                wrong(what + " threw " + e + ", due is " + want.getSimpleName());
            }
        }
        due("digest() after the failing " + what, x.digest(), before);
    }

    static void dueArgument(String what, SelfTuner x, LongSupplier call) {
        dueThrow(what, x, IllegalArgumentException.class, call);
    }

    static void dueIndex(String what, SelfTuner x, LongSupplier call) {
        dueThrow(what, x, IndexOutOfBoundsException.class, call);
    }

    static void dueState(String what, SelfTuner x, LongSupplier call) {
        dueThrow(what, x, IllegalStateException.class, call);
    }

    /** The call changes nothing that a digest tells. */
    static void dueUnchanged(String what, SelfTuner x, LongSupplier call) {
        long before = x.digest();
        call.getAsLong();
        due("digest() after " + what, x.digest(), before);
    }

    /** The call saves one state, and undo brings back what was before it. */
    static void dueUndoable(String what, SelfTuner x, LongSupplier call) {
        long before = x.digest();
        call.getAsLong();
        int remain = x.undo();
        // With four saved states before it, the call has dropped the oldest: the hash ends with their number.
        boolean dropped = remain == 3 && x.digest() == before - 1;
        due("digest() after undo of " + what, x.digest(), dropped ? before - 1 : before);
    }

    static void write(SelfTuner x, String text) {
        for (int i = 0; i < text.length(); i++) {
            x.append(text.charAt(i));
        }
    }

    static void wrong(String text) {
        wrong++;
        wrongOfSentence++;
        if (wrongOfSentence <= 10) {
            System.out.println(sentence + text);
        }
    }

    static void end(String name) {
        System.out.println(name + ": " + made + " checks, " + wrong + " wrong");
        if (wrong != 0) {
            System.exit(1);
        }
    }
}
