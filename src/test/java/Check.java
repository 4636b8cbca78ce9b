/** Counts the answers that are not as due, and tells them. */
final class Check {
    private final String name;
    private String heading = "";
    private int asked;
    private int wrong;

    Check(String name) {
        this.name = name;
    }

    /** What the next answers are about: it is told in front of each fault. */
    void under(String newHeading) {
        heading = newHeading + ": ";
    }

    int asked() {
        return asked;
    }

    void equal(String what, long got, long want) {
        asked++;
        if (got != want) {
            tell(what + " answered " + got + ", due is " + want);
        }
    }

    void equal(String what, double got, double want) {
        asked++;
        if (Double.compare(got, want) != 0) {
            tell(what + " answered " + got + ", due is " + want);
        }
    }

    void equal(String what, String got, String want) {
        asked++;
        if (!got.equals(want)) {
            tell(what + " answered \"" + got + "\", due is \"" + want + "\"");
        }
    }

    void yes(String what, boolean got) {
        asked++;
        if (!got) {
            tell(what + " answered false, due is true");
        }
    }

    void no(String what, boolean got) {
        asked++;
        if (got) {
            tell(what + " answered true, due is false");
        }
    }

    /** The very class counts: one below it may come from the Java machine. */
    void refused(String what, Class<? extends RuntimeException> due, Runnable call) {
        asked++;
        try {
            call.run();
        } catch (RuntimeException thrown) {
            if (thrown.getClass() != due) {
                tell(what + " threw " + thrown + ", due is " + due.getSimpleName());
            }
            return;
        }
        tell(what + " threw nothing, due is " + due.getSimpleName());
    }

    void tell(String fault) {
        wrong++;
        if (wrong <= 40) {
            System.out.println(name + ": " + heading + fault);
        }
    }

    void end() {
        System.out.println(name + ": " + asked + " answers, " + wrong + " wrong");
        if (wrong != 0 || asked == 0) {
            System.exit(1);
        }
    }
}
