/** Counts the answers that are not as due, and prints them. */
final class Check {
    /** A call of the wiki whose answer does not matter. */
    interface Call {
        void run();
    }

    private int asked = 0;
    private int wrong = 0;

    void is(long want, long got, String call) {
        asked++;
        if (want != got) {
            tell(call + " answered " + got + ", due is " + want);
        }
    }

    void is(boolean want, boolean got, String call) {
        asked++;
        if (want != got) {
            tell(call + " answered " + got + ", due is " + want);
        }
    }

    void fails(Class<? extends RuntimeException> want, Call call, String name) {
        asked++;
        Class<?> got = thrownBy(call);
        if (got != want) {
            tell(name + " threw " + (got == null ? "nothing" : got.getName()) + ", due is " + want.getName());
        }
    }

    void works(Call call, String name) {
        asked++;
        Class<?> got = thrownBy(call);
        if (got != null) {
            tell(name + " threw " + got.getName() + ", due is an answer");
        }
    }

    void tell(String text) {
        wrong++;
        if (wrong <= 40) {
            System.out.println(text);
        }
    }

    static Class<?> thrownBy(Call call) {
        try {
            call.run();
            return null;
        } catch (Throwable thrown) {
            return thrown.getClass();
        }
    }

    void end(String name) {
        System.out.println(name + ": " + asked + " answers, " + wrong + " not as due");
        if (wrong != 0 || asked == 0) {
            System.exit(1);
        }
    }
}
