import java.util.function.LongSupplier;

/** Counts the answers that are not as due; every test ends with Due.end(). */
final class Due {
    private static int wrong = 0;
    private static int asked = 0;
    private static String sentence = "";

    private Due() {
    }

    /** What follows holds this sentence of the document. */
    static void sentence(String told) {
        sentence = "[" + told + "] ";
    }

    static void is(String call, long got, long want) {
        asked++;
        if (got != want) {
            wrong++;
            System.out.println(sentence + call + " answered " + got + ", due is " + want);
        }
    }

    static void isTrue(String what, boolean holds) {
        is(what, holds ? 1 : 0, 1);
    }

    /** A refused call answers so and leaves the digest as it was. */
    static void refused(RichestPays x, String call, LongSupplier made, long want) {
        long before = x.digest();
        is(call, made.getAsLong(), want);
        is("digest() behind " + call, x.digest(), before);
    }

    static int asked() {
        return asked;
    }

    static void end(String test) {
        System.out.println(test + ": " + asked + " answers, " + wrong + " not as due");
        if (wrong != 0) {
            System.exit(1);
        }
    }
}
