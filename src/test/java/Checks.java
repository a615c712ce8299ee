/** Counts and prints what is not as due; one object for each test program. */
final class Checks {
    interface Call {
        Object run();
    }

    private int made;
    private int wrong;

    /** The call's answer, or the simple name of the exception that it throws. */
    static Object answerOf(Call call) {
        try {
            return call.run();
        } catch (RuntimeException e) {
            return e.getClass().getSimpleName();
        }
    }

    void due(String what, Object want, Call call) {
        Object got = answerOf(call);
        made++;
        if (!want.equals(got)) {
            wrong++;
            System.out.println(what + " answered " + got + ", due is " + want);
        }
    }

    int made() {
        return made;
    }

    /** Ends the program with 1 if anything was wrong, and says nothing otherwise. */
    void endIfWrong(String name) {
        if (wrong != 0) {
            end(name);
        }
    }

    /** Ends the program with 1 if anything was wrong, or if nothing was checked at all. */
    void end(String name) {
        System.out.println(name + ": " + made + " checks, " + wrong + " wrong");
        if (wrong != 0 || made == 0) {
            System.exit(1);
        }
    }
}
