/** What the tests share: comparing answers, counting the wrong ones, and closing with the exit code. */
final class Check {
    interface Call {
        void make();
    }

    private static int checks = 0;
    private static int wrong = 0;

    private Check() {
    }

    static RangingStation withTones(long... wavelengths) {
        RangingStation x = new RangingStation();
        for (long wavelength : wavelengths) {
            x.addTone(wavelength);
        }
        return x;
    }

    static void eq(String what, long got, long want) {
        note(got == want, what, Long.toString(got), Long.toString(want));
    }

    /** Bit for bit, but that 0.0 and -0.0 are the same. */
    static void eqD(String what, double got, double want) {
        note(got == want, what, Double.toString(got), Double.toString(want));
    }

    static void yes(String what, boolean got) {
        note(got, what, "false", "true");
    }

    static void no(String what, boolean got) {
        note(!got, what, "true", "false");
    }

    /** The call must throw just this class: a subclass of it, which the machine throws, is wrong. */
    static void fails(String what, Class<? extends RuntimeException> due, Call call) {
        String got = "nothing";
        try {
            call.make();
        } catch (RuntimeException e) {
            got = e.getClass().getName();
        }
        note(got.equals(due.getName()), what + " throws", got, due.getName());
    }

    static void note(boolean right, String what, String got, String want) {
        checks++;
        if (!right) {
            wrong++;
            System.out.println("  " + what + ": " + got + ", due is " + want);
        }
    }

    static void finish(String name) {
        System.out.println("  " + name + ": " + checks + " checks, " + wrong + " wrong");
        if (wrong != 0 || checks == 0) {
            System.exit(1);
        }
    }
}
