import java.util.function.Supplier;

/** The sentences about parts, stores and queues that name a boundary case: Terms, and promises 1 to 6. */
final class PartsEdgesTest {
    public static void main(String[] args) {
        aKindIsNothingAtFirst();
        aBatchOfTheKindForbidsItsParts();
        aBatchOfAnotherKindDoesNot();
        aLineOrAnOperationForbidsBuying();
        aBoughtKindIsSetAgain();
        aBoughtKindHasNoBillAndNoRoute();
        linesAloneMakeNoMadeOne();
        aStoreIsSetAtAnyTime();
        aStoreWithoutRoom();
        whatIsBeyondAStoreStays();
        aQueueWithoutRoom();
        whatIsBeyondAQueueStays();
        Checks.end("PartsEdgesTest");
    }

    /** "each nothing yet": it cannot be bought, made or planned, but it can be ordered, and be a part. */
    private static void aKindIsNothingAtFirst() {
        Twins twins = new Twins(Millrace::new);
        for (int kind = 0; kind < 12; kind++) {
            twins.refuses(Twins.STATE, "buy", kind, 1);
            twins.refuses(Twins.STATE, "make", kind, 1, 0);
            twins.refuses(Twins.STATE, "latest", kind, 0);
            twins.refuses(Twins.STATE, "earliest", kind);
            twins.takes("order", kind, 1, 0);
            twins.takes("addMachine", 1, 0, 0, 1, 1, kind);
        }
        twins.takes("addLine", 11, 10, 1, 0);
    }

    /** Bought kinds 0, of which a batch is gone and one shipped, and 1, of which one is coming and one is scrapped. */
    private static Millrace withBatches() {
        Millrace m = Shop.everyState();
        m.setBought(5, 1, 9);
        m.buy(5, 1);
        m.recall(7);
        m.addOperation(6, 2, 0, 1);
        m.make(6, 1, 0);
        m.recall(8);
        return m;
    }

    /** "these calls throw IllegalStateException if a batch of the kind was ever made": whatever became of it. */
    private static void aBatchOfTheKindForbidsItsParts() {
        Twins twins = new Twins(PartsEdgesTest::withBatches);
        for (int kind = 0; kind <= 6; kind++) {
            twins.refuses(Twins.STATE, "setBought", kind, 1, 0);
            twins.refuses(Twins.STATE, "addOperation", kind, 0, 0, 1);
            if (kind > 0) {
                twins.refuses(Twins.STATE, "addLine", kind, 0, 1, -1);
            }
        }
        Twins shippedOnly = new Twins(PartsEdgesTest::madeAndShipped);
        shippedOnly.refuses(Twins.STATE, "addOperation", 1, 0, 0, 1);
        shippedOnly.refuses(Twins.STATE, "addLine", 1, 0, 1, -1);
    }

    /** Kind 1, of which the only batch is gone into one that was shipped. */
    private static Millrace madeAndShipped() {
        Millrace m = Shop.working(1);
        m.make(1, 2, 0);
        m.run(2);
        m.order(1, 2, 0);
        m.promise(0);
        m.ship(0);
        return m;
    }

    /** The same sentence: batches of its parts, and of what it is a part of, do not matter. */
    private static void aBatchOfAnotherKindDoesNot() {
        Supplier<Millrace> shop = () -> {
            Millrace m = Shop.withBought();
            m.addLine(1, 0, 1, -1);
            m.setBought(2, 1, 0);
            m.addLine(3, 2, 1, 1);
            m.addOperation(3, 0, 0, 1);
            m.buy(0, 1);
            m.make(3, 1, 0);
            return m;
        };
        Twins twins = new Twins(shop);
        twins.takes("addLine", 1, 0, 1, -1);
        twins.takes("addOperation", 1, 0, 0, 1);
        Checks.equal("another price", twins.takes("setBought", 2, 9, 9).earliest(2), 9);
    }

    /** "or if it has a line or an operation": one of either, or both; what is a part of another has none. */
    private static void aLineOrAnOperationForbidsBuying() {
        Supplier<Millrace> shop = () -> {
            Millrace m = new Millrace();
            m.addLine(1, 0, 1, -1);
            m.addOperation(2, 0, 0, 1);
            m.addLine(3, 0, 1, -1);
            m.addOperation(3, 0, 0, 1);
            return m;
        };
        Twins twins = new Twins(shop);
        for (int kind = 1; kind < 4; kind++) {
            twins.refuses(Twins.STATE, "setBought", kind, 1, 0);
        }
        twins.takes("setBought", 0, 1, 0);
        twins.takes("setBought", 4, 1, 0);
    }

    /** "or gives it another price and time": as often as one likes, up to the first batch. */
    private static void aBoughtKindIsSetAgain() {
        Millrace m = new Millrace();
        m.setBought(0, 99, 30);
        m.setBought(0, 1, 0);
        m.setBought(0, 99, 30);
        Checks.equal("the greatest time", m.earliest(0), 30);
        m.buy(0, 20);
        Checks.equal("20 pieces at the greatest price", m.batch(0, 2), 1980);
        Checks.equal("they come in 30 hours", m.batch(0, 9), 30);
        Checks.noState("not any more", m, () -> m.setBought(0, 1, 0));
    }

    /** "or if it is bought": neither a line nor an operation, though no batch was made. */
    private static void aBoughtKindHasNoBillAndNoRoute() {
        Twins twins = new Twins(() -> {
            Millrace m = new Millrace();
            m.setBought(5, 1, 0);
            return m;
        });
        twins.refuses(Twins.STATE, "addLine", 5, 0, 1, -1);
        twins.refuses(Twins.STATE, "addOperation", 5, 0, 0, 1);
        twins.refuses(Twins.STATE, "make", 5, 1, 0);
    }

    /** "Adds an operation behind the route of a kind, which is a made one then": and not before. */
    private static void linesAloneMakeNoMadeOne() {
        Supplier<Millrace> shop = () -> {
            Millrace m = Shop.withBought();
            m.addLine(1, 0, 1, -1);
            return m;
        };
        Twins twins = new Twins(shop);
        twins.refuses(Twins.STATE, "make", 1, 1, 0);
        twins.refuses(Twins.STATE, "buy", 1, 1);
        twins.refuses(Twins.STATE, "earliest", 1);
        twins.refuses(Twins.STATE, "latest", 1, 0);
        Millrace m = twins.takes("addOperation", 1, 3, 0, 1);
        Checks.equal("it can be made then", m.make(1, 1, 0), 0);
        Checks.equal("it waits for the class of the operation", m.queue(3), 1);
    }

    /** "It can be set at any time": for each kind and class, with batches of every kind of state. */
    private static void aStoreIsSetAtAnyTime() {
        Twins twins = new Twins(PartsEdgesTest::withBatches);
        for (int kind = 0; kind < 12; kind++) {
            Millrace m = twins.takes("setStore", kind, 0);
            Checks.equal("the size before", m.setStore(kind, 99), 0);
            Checks.equal("the size before that", m.setStore(kind, 1), 99);
        }
        for (int work = 0; work < 4; work++) {
            Millrace m = twins.takes("setQueue", work, 0);
            Checks.equal("the size before", m.setQueue(work, 60), 0);
            Checks.equal("the size before that", m.setQueue(work, 1), 60);
        }
    }

    /** A store of 0 holds nothing, one of 1 a piece; of a batch of 2 not even one comes in. */
    private static void aStoreWithoutRoom() {
        Millrace m = Shop.withBought();
        m.setStore(0, 0);
        m.buy(0, 2);
        m.buy(0, 1);
        m.run(2);
        Checks.equal("no room in a store of 0", m.store(0, 0), 0);
        m.setStore(0, 1);
        m.run(2);
        Checks.equal("room for 1 piece", m.store(0, 0), 1);
        Checks.equal("all of the batch of 2 goes on to come", m.batch(0, 1), 2);
        Checks.equal("it is coming", m.batch(0, 3), 0);
        m.setStore(0, 2);
        m.run(2);
        Checks.equal("room for 1 piece is none for 2", m.batch(0, 3), 0);
        m.setStore(0, 3);
        m.run(1);
        Checks.equal("room for 2 more", m.store(0, 0), 3);
    }

    /** "what is beyond it stays": it can be promised, taken and shipped; nothing comes in until there is room again. */
    private static void whatIsBeyondAStoreStays() {
        Millrace m = Shop.withBought();
        Shop.stocked(m, 0, 9);
        m.setStore(0, 2);
        m.run(9);
        Checks.equal("9 pieces in a store of 2", m.store(0, 0), 9);
        m.order(0, 7, 0);
        m.order(0, 1, 0);
        Checks.equal("promised of what is beyond", m.promise(0), 7);
        m.ship(0);
        m.buy(0, 1);
        m.run(1);
        Checks.equal("2 pieces in a store of 2: no room", m.batch(2, 3), 0);
        m.promise(1);
        m.ship(1);
        m.run(1);
        Checks.equal("1 piece in a store of 2: room for 1", m.batch(2, 3), 3);
    }

    /** A queue of 0 takes no batch, one of 1 just one. */
    private static void aQueueWithoutRoom() {
        Millrace m = Shop.withMade(1);
        m.setQueue(0, 0);
        Checks.noState("a queue of 0", m, () -> m.make(1, 1, 0));
        m.setQueue(0, 1);
        m.make(1, 4, 0);
        Checks.noState("a queue of 1, and 1 waits", m, () -> m.make(1, 1, 0));
        Checks.noState("nor can it be split", m, () -> m.split(0, 1));
        m.setQueue(0, 2);
        Checks.equal("a queue of 2, and 1 waits", m.split(0, 1), 1);
        Checks.noState("a queue of 2, and 2 wait", m, () -> m.split(0, 1));
    }

    /** "what is beyond it stays": it is taken in its turn; nothing comes in until there is room again. */
    private static void whatIsBeyondAQueueStays() {
        Millrace m = Shop.working(1);
        for (int i = 0; i < 4; i++) {
            m.make(1, 1, 9 - i);
        }
        m.setQueue(0, 2);
        Checks.equal("4 wait in a queue of 2", m.queue(0), 4);
        m.run(2);
        Checks.equal("2 wait", m.queue(0), 2);
        Checks.noState("2 wait in a queue of 2: no room", m, () -> m.make(1, 1, 0));
        m.run(1);
        Checks.equal("1 waits in a queue of 2: room", m.make(1, 1, 0), 4);
        m.setQueue(0, 0);
        m.run(3);
        Checks.equal("all were taken, from a queue of 0", m.queue(0), 0);
        Checks.equal("the last one", m.batch(4, 3), 3);
    }
}
