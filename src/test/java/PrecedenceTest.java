import java.util.function.Supplier;

/**
 * "If several exceptions apply, the one that is named first in the throws clause is thrown": every call, with each
 * wrong index beside each wrong argument, where it can be done and where it cannot be done now.
 */
final class PrecedenceTest {
    private static final int[] NO_PLACES = {};

    private final Twins twins;
    private final String call;
    private final int[] right;
    private final boolean isRefused;

    private PrecedenceTest(Supplier<Millrace> shop, boolean isRefused, String call, int... right) {
        this.twins = new Twins(shop);
        this.isRefused = isRefused;
        this.call = call;
        this.right = right;
    }

    public static void main(String[] args) {
        parts();
        people();
        batches();
        splitAndJoin();
        orders();
        time();
        views();
        Checks.end("PrecedenceTest");
    }

    /** In a shop in which the call with right arguments throws IllegalStateException. */
    private static PrecedenceTest refused(Supplier<Millrace> shop, String call, int... right) {
        return new PrecedenceTest(shop, true, call, right);
    }

    private static PrecedenceTest taken(Supplier<Millrace> shop, String call, int... right) {
        return new PrecedenceTest(shop, false, call, right);
    }

    /** The numbers at the first places are indices, at the others arguments: each is made too great, or below 0. */
    private void look(int[] indices, int... others) {
        if (isRefused) {
            twins.refuses(Twins.STATE, call, right);
        } else {
            twins.takes(call, right);
        }
        for (int wrong : new int[] {-2, 1000}) {
            for (int other : others) {
                twins.refuses(Twins.ARGUMENT, call, with(right, other, wrong));
            }
            for (int index : indices) {
                int[] withIndex = with(right, index, wrong);
                twins.refuses(Twins.INDEX, call, withIndex);
                for (int other : others) {
                    twins.refuses(Twins.INDEX, call, with(withIndex, other, wrong));
                    twins.refuses(Twins.INDEX, call, with(withIndex, other, -998 - wrong));
                }
            }
        }
    }

    private static int[] with(int[] arguments, int place, int value) {
        int[] changed = arguments.clone();
        changed[place] = value;
        return changed;
    }

    private static int[] places(int... places) {
        return places;
    }

    /** Kind 1 is bought and has a batch, kind 2 is made and has one, kind 3 has 3 lines and 4 operations, 4 nothing. */
    private static Millrace withParts() {
        Millrace m = new Millrace();
        m.setBought(1, 1, 5);
        m.addOperation(2, 0, 0, 1);
        for (int i = 0; i < 4; i++) {
            m.addOperation(3, 0, 0, 1);
        }
        for (int i = 0; i < 3; i++) {
            m.addLine(3, i, 1, -1);
        }
        m.buy(1, 1);
        m.make(2, 1, 0);
        m.setBought(11, 1, 5);
        return m;
    }

    private static void parts() {
        Supplier<Millrace> shop = PrecedenceTest::withParts;
        taken(shop, "setBought", 11, 2, 2).look(places(0), 1, 2);
        taken(shop, "addLine", 4, 3, 1, 2).look(places(0, 1, 3), 2);
        taken(shop, "addOperation", 4, 0, 0, 1).look(places(0, 1, 2), 3);
        for (int kind = 1; kind < 4; kind++) {
            refused(shop, "setBought", kind, 2, 2).look(places(0), 1, 2);
            refused(shop, "addLine", kind, 0, 1, -1).look(places(0, 1, 3), 2);
            refused(shop, "addOperation", kind, 0, 0, 1).look(places(0, 1, 2), 3);
        }
        refused(shop, "addLine", 11, 3, 1, 2).look(places(0, 1, 3), 2);
        refused(shop, "addOperation", 11, 0, 0, 1).look(places(0, 1, 2), 3);
        Twins twins = new Twins(shop);
        for (int kind = 1; kind < 4; kind++) {
            twins.refuses(Twins.ARGUMENT, "addLine", kind, kind, 1, -1);
            twins.refuses(Twins.ARGUMENT, "addLine", kind, 0, 1, kind);
            twins.refuses(Twins.ARGUMENT, "addLine", kind, 0, 1, 0);
            twins.refuses(Twins.INDEX, "addLine", kind, kind, 1, 12);
            twins.refuses(Twins.INDEX, "addLine", kind, 12, 1, kind);
            twins.refuses(Twins.INDEX, "addLine", kind, 12, 1, 12);
        }
        taken(shop, "setStore", 1, 5).look(places(0), 1);
        taken(shop, "setQueue", 1, 5).look(places(0), 1);
    }

    private static Millrace withSixEach() {
        Millrace m = new Millrace();
        for (int i = 0; i < 6; i++) {
            Shop.addMachine(m, 1);
            Shop.addPerson(m, 1);
        }
        return m;
    }

    private static void people() {
        taken(Millrace::new, "addMachine", 1, 0, 0, 1, 1, -1).look(places(5), 0, 1, 2, 3, 4);
        refused(PrecedenceTest::withSixEach, "addMachine", 1, 0, 0, 1, 1, 11).look(places(5), 0, 1, 2, 3, 4);
        taken(Millrace::new, "addPerson", 0, 0, 1).look(NO_PLACES, 0, 1, 2);
        refused(PrecedenceTest::withSixEach, "addPerson", 0, 0, 1).look(NO_PLACES, 0, 1, 2);
        taken(PrecedenceTest::withSixEach, "setLevel", 5, 1, 1).look(places(0, 1), 2);
    }

    /** 60 batches: 0 and 1 wait, of 3 pieces each; 2 is promised to an order; the others come. */
    private static Millrace full() {
        Millrace m = Shop.withMade(1);
        m.make(1, 3, 0);
        m.make(1, 3, 0);
        m.buy(0, 3);
        m.order(0, 3, 0);
        m.run(1);
        m.promise(0);
        Shop.fill(m, 60);
        return m;
    }

    private static Millrace withoutQueue() {
        Millrace m = Shop.withMade(1);
        m.make(1, 3, 0);
        m.make(1, 3, 0);
        m.setQueue(0, 2);
        return m;
    }

    private static void batches() {
        taken(PrecedenceTest::withParts, "buy", 1, 1).look(places(0), 1);
        refused(PrecedenceTest::full, "buy", 0, 1).look(places(0), 1);
        taken(PrecedenceTest::withParts, "make", 2, 1, 0).look(places(0), 1, 2);
        refused(PrecedenceTest::full, "make", 1, 1, 0).look(places(0), 1, 2);
        refused(PrecedenceTest::withoutQueue, "make", 1, 1, 0).look(places(0), 1, 2);
        for (int kind = 2; kind < 5; kind++) {
            refused(PrecedenceTest::withParts, "buy", kind, 1).look(places(0), 1);
        }
        for (int kind = 0; kind < 2; kind++) {
            refused(PrecedenceTest::withParts, "make", kind, 1, 0).look(places(0), 1, 2);
        }
        taken(Shop::everyState, "late", 0, 1).look(places(0), 1);
        taken(Shop::everyState, "rank", 1, 1, 1).look(places(0), 1);
        for (int batch = 0; batch < 7; batch++) {
            if (batch != 0) {
                refused(Shop::everyState, "late", batch, 1).look(places(0), 1);
            }
            if (batch != 1) {
                refused(Shop::everyState, "rank", batch, 1, 1).look(places(0), 1);
            }
        }
    }

    private static Millrace frozen() {
        Millrace m = Shop.withMade(1);
        m.make(1, 3, 0);
        m.make(1, 3, 0);
        m.rank(0, 0, true);
        return m;
    }

    private static void splitAndJoin() {
        taken(Shop::everyState, "split", 1, 1).look(places(0), 1);
        refused(PrecedenceTest::full, "split", 0, 1).look(places(0), 1);
        refused(PrecedenceTest::withoutQueue, "split", 0, 1).look(places(0), 1);
        refused(PrecedenceTest::frozen, "split", 0, 1).look(places(0), 1);
        for (int batch : new int[] {0, 2, 3, 5, 6}) {
            refused(Shop::everyState, "split", batch, 1).look(places(0), 1);
        }
        Twins states = new Twins(Shop::everyState);
        states.refuses(Twins.ARGUMENT, "split", 4, 1);
        for (int batch = 0; batch < 7; batch++) {
            states.refuses(Twins.ARGUMENT, "split", batch, 4);
            states.refuses(Twins.ARGUMENT, "join", batch, batch);
            states.refuses(Twins.INDEX, "join", batch, 7);
            states.refuses(Twins.INDEX, "join", 7, batch);
        }
        states.refuses(Twins.INDEX, "join", 7, 7);
        states.refuses(Twins.INDEX, "join", -1, -1);
        refused(PrecedenceTest::full, "join", 0, 1).look(places(0, 1));
        refused(PrecedenceTest::frozen, "join", 0, 1).look(places(0, 1));
        new Twins(PrecedenceTest::frozen).refuses(Twins.ARGUMENT, "join", 0, 0);
        new Twins(PrecedenceTest::full).refuses(Twins.ARGUMENT, "join", 0, 0);
    }

    private static Millrace withTenOrders() {
        Millrace m = Shop.everyState();
        for (int i = 1; i < 10; i++) {
            m.order(0, 9, 0);
        }
        return m;
    }

    private static void orders() {
        taken(Shop::everyState, "order", 0, 1, 0).look(places(0), 1, 2);
        refused(PrecedenceTest::withTenOrders, "order", 0, 1, 0).look(places(0), 1, 2);
        taken(PrecedenceTest::withTenOrders, "promise", 1).look(places(0));
        refused(PrecedenceTest::withTenOrders, "promise", 0).look(places(0));
        refused(PrecedenceTest::withTenOrders, "ship", 0).look(places(0));
        refused(PrecedenceTest::withTenOrders, "ship", 1).look(places(0));
        refused(PrecedenceTest::full, "ship", 0).look(places(0));
    }

    private static Millrace atTheEnd() {
        Millrace m = Shop.working(1);
        Shop.pass(m, 2000);
        m.make(1, 1, 0);
        return m;
    }

    private static void time() {
        taken(Shop::everyState, "run", 1).look(NO_PLACES, 0);
        refused(PrecedenceTest::atTheEnd, "run", 1).look(NO_PLACES, 0);
        refused(PrecedenceTest::atTheEnd, "run", 50).look(NO_PLACES, 0);
    }

    private static void views() {
        for (String call : new String[] {"batch", "machine", "store", "told"}) {
            taken(Shop::everyState, call, 0, 0).look(places(0), 1);
        }
        Twins twins = new Twins(Shop::everyState);
        for (String call : new String[] {"parent", "origin", "queued"}) {
            twins.refuses(Twins.ARGUMENT, call, 0, -1);
            twins.refuses(Twins.INDEX, call, -1, -1);
            twins.refuses(Twins.INDEX, call, 7, -1);
            twins.refuses(Twins.INDEX, call, 7, 0);
        }
        taken(Shop::everyState, "level", 0, 0).look(places(0, 1));
        taken(Shop::everyState, "why", 0, 0).look(places(0, 1));
        taken(Shop::everyState, "latest", 0, 0).look(places(0), 1);
        refused(Shop::everyState, "latest", 11, 0).look(places(0), 1);
        taken(Shop::everyState, "earliest", 0).look(places(0));
        refused(Shop::everyState, "earliest", 11).look(places(0));
    }
}
