/** Counts and prints the answers that are not the ones that are due. */
final class Check {
    private String told = "";
    private int wrong;
    private int made;

    /** A call that may throw. */
    interface Call {
        void make();
    }

    /** The words of the document that the checks from here on are about; a fault shows them. */
    void words(String ofTheDocument) {
        told = "\"" + ofTheDocument + "\": ";
    }

    void due(String call, long got, long want) {
        made++;
        if (got != want) {
            fault(call + " answered " + got + ", due is " + want);
        }
    }

    void dueText(String call, String got, String want) {
        made++;
        if (!got.equals(want)) {
            fault(call + " answered " + got + ", due is " + want);
        }
    }

    /** The call throws just this exception, and no class below it. */
    void dueThrow(String call, Class<? extends RuntimeException> want, Call made) {
        this.made++;
        try {
            made.make();
        } catch (RuntimeException got) {
            if (got.getClass() != want) {
                fault(call + " threw " + got + ", due is " + want.getSimpleName());
            }
            return;
        }
        fault(call + " threw nothing, due is " + want.getSimpleName());
    }

    void fault(String text) {
        wrong++;
        if (wrong <= 50) {
            System.out.println(told + text);
        }
    }

    /** Prints how many were wrong; ends the machine with exit code 1 if there was one. */
    void end() {
        System.out.println(wrong + " of " + made + " answers are not as due");
        if (wrong != 0) {
            System.exit(1);
        }
    }
}
