import java.util.function.IntFunction;
import java.util.function.Supplier;

/** Compares answers with those that are due, and ends the test with exit code 1 if one was wrong. */
final class Check {
    private int asked = 0;
    private int wrong = 0;

    void due(String call, long got, long want) {
        note(call, Long.toString(got), Long.toString(want));
    }

    void yes(String call, boolean got) {
        note(call, Boolean.toString(got), "true");
    }

    void no(String call, boolean got) {
        note(call, Boolean.toString(got), "false");
    }

    /** The very class is asked for, as a class above or below it would be another exception. */
    void refused(String call, Class<? extends RuntimeException> want, Runnable what) {
        String got = "nothing";
        try {
            what.run();
        } catch (RuntimeException e) {
            got = e.getClass().getSimpleName();
        }
        note(call + " throws", got, want.getSimpleName());
    }

    /** Makes the call, whose answer must be the one that is due: a value, DONE or the name of an exception. */
    void answer(String what, TypeFoundry foundry, Call call, Object want) {
        note(what + ": " + call.text(), call.on(foundry), String.valueOf(want));
    }

    /**
     * The least and the most value are taken, those next to them and those far off are not: each on a new object, so
     * that none is refused for what another one did.
     */
    void bounds(String what, Supplier<TypeFoundry> made, IntFunction<Call> call, int least, int most, Object taken,
            Object refused) {
        for (int value : new int[] {least, most}) {
            answer(what, made.get(), call.apply(value), taken);
        }
        for (int value : new int[] {least - 1, most + 1, Integer.MIN_VALUE, Integer.MAX_VALUE}) {
            answer(what, made.get(), call.apply(value), refused);
        }
    }

    void note(String call, String got, String want) {
        asked++;
        if (!got.equals(want)) {
            wrong++;
            System.out.println(call + ": answered " + got + ", due is " + want);
        }
    }

    boolean isClean() {
        return wrong == 0;
    }

    void end() {
        System.out.println(asked + " answers, " + wrong + " wrong");
        if (wrong > 0 || asked == 0) {
            System.exit(1);
        }
    }
}
