import java.util.function.Supplier;

/** How many there can be of what is counted: the last one that is allowed is taken, and the next one refused. */
final class LimitsTest {
    private static final int CALLS = 512;

    public static void main(String[] args) {
        aBillHasAtMostThreeLines();
        aRouteHasAtMostFourOperations();
        atMostSixMachines();
        atMostSixPeople();
        atMostTenOrders();
        atMostSixtyBatchesByBuy();
        atMostSixtyBatchesByMake();
        atMostSixtyBatchesBySplit();
        atMostSixtyBatchesByJoin();
        atMostSixtyBatchesByShip();
        aStoreHoldsTwentyPiecesAtFirst();
        aStoreHoldsAtMostNinetyNinePieces();
        aQueueHoldsNineBatchesAtFirst();
        aQueueHoldsSixtyBatches();
        theHourIsAtMostTwoThousand();
        anObjectServesAllItsCalls();
        Checks.end("LimitsTest");
    }

    private static Supplier<Millrace> withLines(int kind, int lines) {
        return () -> {
            Millrace m = new Millrace();
            for (int i = 0; i < lines; i++) {
                m.addLine(kind, kind - 1, 1 + i, -1);
            }
            return m;
        };
    }

    /** "A made one has a bill, of at most 3 lines"; "Returns how many lines it has then". */
    private static void aBillHasAtMostThreeLines() {
        for (int kind = 1; kind < 12; kind++) {
            for (int lines = 0; lines < 3; lines++) {
                Checks.equal("lines then", withLines(kind, lines).get().addLine(kind, 0, 3, -1), lines + 1);
            }
        }
        new Twins(withLines(11, 3)).refuses(Twins.STATE, "addLine", 11, 0, 1, -1);
        new Twins(withLines(1, 3)).refuses(Twins.STATE, "addLine", 1, 0, 1, -1);
        new Twins(withLines(5, 3)).takes("addLine", 6, 0, 1, -1);
        new Twins(withLines(5, 3)).takes("addOperation", 5, 0, 0, 1);
    }

    private static Supplier<Millrace> withOperations(int kind, int operations) {
        return () -> {
            Millrace m = new Millrace();
            for (int i = 0; i < operations; i++) {
                m.addOperation(kind, i, i, 1 + i);
            }
            return m;
        };
    }

    /** "and a route, of at most 4 operations"; "Returns how many operations it has then". */
    private static void aRouteHasAtMostFourOperations() {
        for (int kind = 0; kind < 12; kind++) {
            for (int operations = 0; operations < 4; operations++) {
                Millrace m = withOperations(kind, operations).get();
                Checks.equal("operations then", m.addOperation(kind, 0, 0, 9), operations + 1);
            }
        }
        new Twins(withOperations(0, 4)).refuses(Twins.STATE, "addOperation", 0, 0, 0, 1);
        new Twins(withOperations(11, 4)).refuses(Twins.STATE, "addOperation", 11, 0, 0, 1);
        new Twins(withOperations(5, 4)).takes("addOperation", 6, 0, 0, 1);
        new Twins(withOperations(5, 4)).takes("addLine", 5, 0, 1, -1);
    }

    private static Millrace withMachines(int machines) {
        Millrace m = Shop.withMade(1);
        for (int i = 0; i < machines; i++) {
            Checks.equal("the number of a machine", Shop.addMachine(m, 1), i);
        }
        return m;
    }

    /** "Machines are numbered from 0, at most 6". */
    private static void atMostSixMachines() {
        Checks.equal("the last machine", withMachines(5).addMachine(15, 5, 9, 50, 9, 11), 5);
        new Twins(() -> withMachines(6)).refuses(Twins.STATE, "addMachine", 1, 0, 0, 1, 1, -1);
    }

    private static Millrace withPeople(int people) {
        Millrace m = Shop.withMade(1);
        for (int i = 0; i < people; i++) {
            Checks.equal("the number of a person", Shop.addPerson(m, 1), i);
        }
        return m;
    }

    /** "People are numbered from 0, at most 6". */
    private static void atMostSixPeople() {
        Checks.equal("the last person", withPeople(5).addPerson(9, 23, 24), 5);
        new Twins(() -> withPeople(6)).refuses(Twins.STATE, "addPerson", 0, 0, 1);
    }

    private static Millrace withOrders(int orders) {
        Millrace m = Shop.withBought();
        Shop.stocked(m, 0, 20);
        for (int i = 0; i < orders; i++) {
            Checks.equal("the number of an order", m.order(0, 1, i), i);
            m.promise(i);
            m.ship(i);
        }
        return m;
    }

    /** "Orders are numbered from 0, at most 10": those that were shipped count, too. */
    private static void atMostTenOrders() {
        Checks.equal("the last order", withOrders(9).order(11, 20, 999), 9);
        new Twins(() -> withOrders(10)).refuses(Twins.STATE, "order", 0, 1, 0);
    }

    /** The call makes the batch 59, and is refused when there are 60. */
    private static void makesTheLastOne(Supplier<Millrace> with59, Supplier<Millrace> with60, String call,
            int... arguments) {
        Checks.equal("batches ahead of it", with59.get().batches(), 59);
        Millrace m = new Twins(with59).takes(call, arguments);
        Checks.equal("batches behind it", m.batches(), 60);
        Checks.equal("batches when it is refused", with60.get().batches(), 60);
        new Twins(with60).refuses(Twins.STATE, call, arguments);
    }

    private static Millrace full(Millrace factory, int batches) {
        Shop.fill(factory, batches);
        return factory;
    }

    /** "Batches are numbered from 0, at most 60 are ever made". */
    private static void atMostSixtyBatchesByBuy() {
        makesTheLastOne(() -> full(Shop.withBought(), 59), () -> full(Shop.withBought(), 60), "buy", 0, 1);
    }

    private static void atMostSixtyBatchesByMake() {
        makesTheLastOne(() -> full(Shop.withMade(1), 59), () -> full(Shop.withMade(1), 60), "make", 1, 1, 0);
    }

    /** Two batches of 2 pieces wait, and two orders can be shipped. */
    private static Millrace ready() {
        Millrace m = Shop.withMade(1);
        m.make(1, 2, 0);
        m.make(1, 2, 0);
        Shop.stocked(m, 0, 2);
        for (int order = 0; order < 2; order++) {
            m.order(0, 1, 0);
            m.promise(order);
        }
        return m;
    }

    private static void atMostSixtyBatchesBySplit() {
        makesTheLastOne(() -> full(ready(), 59), () -> full(ready(), 60), "split", 1, 1);
    }

    private static void atMostSixtyBatchesByJoin() {
        makesTheLastOne(() -> full(ready(), 59), () -> full(ready(), 60), "join", 0, 1);
    }

    private static void atMostSixtyBatchesByShip() {
        makesTheLastOne(() -> full(ready(), 59), () -> full(ready(), 60), "ship", 1);
    }

    /** "A kind has a store of a size, 20 pieces at first". */
    private static void aStoreHoldsTwentyPiecesAtFirst() {
        for (int kind = 0; kind < 12; kind++) {
            Millrace m = new Millrace();
            m.setBought(kind, 1, 0);
            m.buy(kind, 19);
            m.buy(kind, 2);
            m.buy(kind, 1);
            m.buy(kind, 1);
            m.run(2);
            Checks.equal("20 pieces of " + kind, m.store(kind, 0), 20);
            Checks.equal("2 had no room behind 19", m.batch(1, 3), 0);
            Checks.equal("1 had room behind 19", m.batch(2, 3), 3);
            Checks.equal("1 had no room behind 20", m.batch(3, 3), 0);
        }
    }

    /** "size: 0 to 99": 99 pieces have room, and a hundredth has not. */
    private static void aStoreHoldsAtMostNinetyNinePieces() {
        Millrace m = Shop.withBought();
        m.setStore(0, 99);
        for (int i = 0; i < 4; i++) {
            m.buy(0, 20);
        }
        m.buy(0, 18);
        m.buy(0, 2);
        m.run(1);
        Checks.equal("98 pieces", m.store(0, 0), 98);
        m.buy(0, 1);
        m.buy(0, 1);
        m.run(1);
        Checks.equal("99 pieces", m.store(0, 0), 99);
        Checks.equal("the next one has no room", m.batch(7, 3), 0);
        Checks.equal("more can be ordered all the same", m.buy(0, 20), 8);
    }

    /** "each class has a queue of a size, 9 batches at first". */
    private static void aQueueHoldsNineBatchesAtFirst() {
        for (int work = 0; work < 4; work++) {
            int theWork = work;
            Supplier<Millrace> shop = () -> {
                Millrace m = new Millrace();
                m.addOperation(0, theWork, 0, 1);
                for (int i = 0; i < 9; i++) {
                    m.make(0, 2, 0);
                }
                return m;
            };
            Checks.equal("9 wait for the class " + work, shop.get().queue(work), 9);
            new Twins(shop).refuses(Twins.STATE, "make", 0, 1, 0);
            new Twins(shop).refuses(Twins.STATE, "split", 0, 1);
            new Twins(shop).takes("join", 0, 1);
        }
    }

    /** "size: 0 to 60": with 59 the sixtieth batch has no room, with 60 it has. */
    private static void aQueueHoldsSixtyBatches() {
        Supplier<Millrace> shop = () -> {
            Millrace m = Shop.withMade(1);
            m.setQueue(0, 59);
            for (int i = 0; i < 59; i++) {
                m.make(1, 1, i % 10);
            }
            return m;
        };
        new Twins(shop).refuses(Twins.STATE, "make", 1, 1, 0);
        Millrace m = shop.get();
        Checks.equal("the size before", m.setQueue(0, 60), 59);
        Checks.equal("the sixtieth", m.make(1, 1, 0), 59);
        Checks.equal("all wait", m.queue(0), 60);
        Checks.equal("the last one in the queue", m.queued(0, 59), 59);
        Checks.equal("none behind it", m.queued(0, 60), -1);
    }

    private static Millrace at(int hour) {
        Millrace m = Shop.working(9);
        m.make(1, 1, 0);
        m.stand(true);
        Shop.pass(m, hour);
        m.stand(false);
        return m;
    }

    /** "if the hour would be above 2000", be it that the factory stands still, or that it works. */
    private static void theHourIsAtMostTwoThousand() {
        for (int hours = 1; hours <= 50; hours++) {
            Checks.equal("up to the last hour", at(2000 - hours).run(hours), 2000);
        }
        for (int hours : new int[] {1, 2, 49, 50}) {
            new Twins(() -> at(2001 - hours)).refuses(Twins.STATE, "run", hours);
            new Twins(() -> at(2000)).refuses(Twins.STATE, "run", hours);
        }
        Millrace m = at(2000);
        m.stand(true);
        Checks.noState("standing still", m, () -> m.run(1));
        Checks.equal("the hour", m.hour(), 2000);
    }

    /** "An object is used for at most 512 calls after it has been made": the last of these is served as the first. */
    private static void anObjectServesAllItsCalls() {
        Millrace m = new Millrace();
        int calls = 0;
        for (; calls < CALLS - 41; calls++) {
            int due = calls == 0 ? 20 : (calls - 1) % 100;
            Checks.equal("size of a store, call " + calls, m.setStore(0, calls % 100), due);
        }
        for (; calls < CALLS - 1; calls++) {
            m.run(50);
        }
        Checks.equal("the hour, at the last call", m.hour(), 2000);
    }
}
