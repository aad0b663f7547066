import java.util.function.Supplier;

/**
 * Factories that were built alike. One is put a call that is refused; it must then tell the same as one that was not,
 * and all that comes of it later must be the same, too.
 */
final class Twins {
    static final String INDEX = "IndexOutOfBoundsException";
    static final String ARGUMENT = "IllegalArgumentException";
    static final String STATE = "IllegalStateException";

    private final Supplier<Millrace> shop;
    private final String sight;
    private final String aftermath;

    Twins(Supplier<Millrace> shop) {
        this.shop = shop;
        Millrace untouched = shop.get();
        sight = Sight.of(untouched);
        aftermath = Aftermath.of(untouched);
    }

    /** The call throws just that, and changes nothing, be it seen or not. */
    void refuses(String due, String call, int... arguments) {
        Millrace factory = shop.get();
        String what = Calls.text(call, arguments);
        Checks.equal(what, Calls.ask(factory, call, arguments), due);
        Checks.equal(what + ", what is seen then", Sight.of(factory), sight);
        Checks.equal(what + ", what comes of it", Aftermath.of(factory), aftermath);
    }

    /** The call is not refused; returns the factory, for a look at what it did. */
    Millrace takes(String call, int... arguments) {
        Millrace factory = shop.get();
        String answer = Calls.ask(factory, call, arguments);
        Checks.isTrue(Calls.text(call, arguments) + " is taken, and not " + answer, !answer.endsWith("Exception"));
        return factory;
    }

    /** The call is not refused, and changes nothing. */
    void onlyTells(String call, int... arguments) {
        Millrace factory = takes(call, arguments);
        Checks.equal(Calls.text(call, arguments) + ", what is seen then", Sight.of(factory), sight);
    }
}
