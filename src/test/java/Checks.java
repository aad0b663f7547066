import java.util.ArrayList;
import java.util.List;

/** Counts the answers of one test program, prints the wrong ones, and ends it with exit code 1 if there was one. */
final class Checks {
    private static final List<String> WRONG = new ArrayList<>();
    private static int asked = 0;

    private Checks() {
    }

    static void equal(String what, long got, long due) {
        asked++;
        if (got != due) {
            WRONG.add(what + " answered " + got + ", due is " + due);
        }
    }

    static void equal(String what, String got, String due) {
        asked++;
        if (!got.equals(due)) {
            WRONG.add(what + " answered\n    " + got + "\n  due is\n    " + due);
        }
    }

    static void isTrue(String what, boolean holds) {
        equal(what, holds ? 1 : 0, 1);
    }

    /** The call must throw just that class, and leave all that can be seen of the factory as it was. */
    static void refuses(String what, Millrace factory, Class<? extends RuntimeException> due, Runnable call) {
        asked++;
        String before = Sight.of(factory);
        String thrown = "nothing";
        try {
            call.run();
        } catch (RuntimeException e) {
            thrown = e.getClass().getSimpleName();
        }
        if (!thrown.equals(due.getSimpleName())) {
            WRONG.add(what + " threw " + thrown + ", due is " + due.getSimpleName());
        }
        equal(what + ", what it changed", Sight.of(factory), before);
    }

    static void noIndex(String what, Millrace factory, Runnable call) {
        refuses(what, factory, IndexOutOfBoundsException.class, call);
    }

    static void noArgument(String what, Millrace factory, Runnable call) {
        refuses(what, factory, IllegalArgumentException.class, call);
    }

    static void noState(String what, Millrace factory, Runnable call) {
        refuses(what, factory, IllegalStateException.class, call);
    }

    static void end(String test) {
        for (String wrong : WRONG) {
            System.out.println(test + ": " + wrong);
        }
        System.out.println(test + ": " + asked + " checks, " + WRONG.size() + " wrong");
        if (!WRONG.isEmpty()) {
            System.exit(1);
        }
    }
}
