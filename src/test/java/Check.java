import java.util.concurrent.Callable;

/** Counts what is as due and what is not; a test ends by finish(). */
final class Check {
    private final String test;
    private int right;
    private int wrong;

    Check(String test) {
        this.test = test;
    }

    void same(String what, Object got, Object want) {
        if (want.equals(got)) {
            right++;
        } else {
            wrong++;
            System.out.println(test + ": " + what + " is " + got + ", due is " + want);
        }
    }

    /** The very class: what the machine throws itself is often of a class below it. */
    void fails(String what, Class<?> want, Callable<?> call) {
        String got;
        try {
            got = "answered " + call.call();
        } catch (Exception e) {
            got = e.getClass().getName();
        }
        same(what, got, want.getName());
    }

    void finish() {
        System.out.println(test + ": " + right + " as due, " + wrong + " not");
        if (wrong != 0) {
            System.exit(1);
        }
    }
}
