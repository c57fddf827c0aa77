import java.util.function.IntSupplier;

/** What the tests share: counted checks, told with what they are about, and common beginnings. */
abstract class Checks {
    static final String INDEX = "IndexOutOfBoundsException";
    static final String ARGUMENT = "IllegalArgumentException";
    static final String STATE = "IllegalStateException";
    static final int BIG = Integer.MAX_VALUE;
    static final int SMALL = Integer.MIN_VALUE;

    static String about = "";

    private static int wrong = 0;
    private static int checks = 0;

    static void due(String what, long got, long want) {
        same(what, String.valueOf(got), String.valueOf(want));
    }

    static void same(String what, String got, String want) {
        checks++;
        if (!got.equals(want)) {
            wrong++;
            System.out.println(about + ": " + what + " is " + got + ", due is " + want);
        }
    }

    /** The name must be that of the very class: one below it is the machine's. */
    static void thrown(String what, String want, IntSupplier call) {
        same(what, answer(call), "throws " + want);
    }

    static String answer(IntSupplier call) {
        try {
            return String.valueOf(call.getAsInt());
        } catch (RuntimeException e) {
            return "throws " + e.getClass().getSimpleName();
        }
    }

    /** A test of its own for one sentence: what breaks in it doesn't stop the others. */
    static void test(String sentence, Runnable body) {
        about = sentence;
        try {
            body.run();
        } catch (RuntimeException e) {
            same("the run of calls", "throws " + e.getClass().getSimpleName(), "without an exception");
        }
    }

    static void finish() {
        System.out.println(wrong == 0 ? checks + " checks hold" : wrong + " of " + checks + " checks fail");
        if (wrong != 0) {
            System.exit(1);
        }
    }

    static HarvestLender with(int farmers, int group) {
        HarvestLender x = new HarvestLender();
        for (int i = 0; i < farmers; i++) {
            x.add(group);
        }
        return x;
    }

    static void goTo(HarvestLender x, int stage) {
        for (int i = x.stage(); i < stage; i++) {
            x.next();
        }
    }

    static HarvestLender at(HarvestLender x, int stage) {
        goTo(x, stage);
        return x;
    }

    static HarvestLender closed(HarvestLender x) {
        goTo(x, 4);
        x.close();
        return x;
    }
}
