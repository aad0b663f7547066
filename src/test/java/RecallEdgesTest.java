/** The sentences about what a recall scraps, frees and takes away from orders, that name a boundary case. */
final class RecallEdgesTest {
    public static void main(String[] args) {
        eachStateIsScrappedOrNot();
        allThatWereLookedAtAreCounted();
        onlyWhatStemsFromItIsScrapped();
        whatIsScrappedIsToldAsItWas();
        theStoreLosesOnlyWhatWasInIt();
        otherMachinesGoOn();
        aMachineAtItsLimitNeedsARepair();
        scrappedBatchesLeaveRoom();
        promisesAreKeptWhileThereIsEnough();
        theHighestOrdersLoseFirst();
        otherOrdersLoseNothing();
        ordersOfWhatStemsFromItLose();
        Checks.end("RecallEdgesTest");
    }

    /** "are scrapped, if they are not shipped or gone into others"; what was scrapped before is not scrapped again. */
    private static void eachStateIsScrappedOrNot() {
        int[] due = {1, 1, 1, 1, 100, 0, 100};
        int[] states = {5, 5, 5, 5, 4, 5, 6};
        for (int batch = 0; batch < 7; batch++) {
            Millrace m = Shop.everyState();
            Checks.equal("recall of a batch of the state " + batch, m.recall(batch), due[batch]);
            for (int other = 0; other < 7; other++) {
                Checks.equal("then the state of " + other, m.batch(other, 3), other == batch ? states[batch] : other);
            }
            Checks.equal("and once more", m.recall(batch), due[batch] / 100 * 100);
        }
    }

    /** Batch 0 bought, of 20 pieces; 1 made of it and split into 2 and 3, which are shipped in two, 4 and 5. */
    private static Millrace twiceShipped() {
        Millrace m = Shop.withBought();
        m.addLine(1, 0, 1, -1);
        m.addOperation(1, 0, 0, 1);
        Shop.addMachine(m, 1);
        Shop.addPerson(m, 1);
        Shop.stocked(m, 0, 20);
        m.make(1, 9, 0);
        m.split(1, 3);
        m.split(1, 3);
        m.run(4);
        m.order(1, 3, 0);
        m.order(1, 5, 0);
        m.promise(0);
        m.promise(1);
        m.ship(0);
        m.ship(1);
        return m;
    }

    /** "100 times how many of all that were looked at are shipped": those behind batches that are gone, too. */
    private static void allThatWereLookedAtAreCounted() {
        Checks.equal("the bought one, one piece that is left, and two shipped", twiceShipped().recall(0), 202);
        Checks.equal("of the first the shipped ones alone", twiceShipped().recall(1), 201);
        Checks.equal("of the second one", twiceShipped().recall(2), 100);
        Checks.equal("of the third one what is left of it", twiceShipped().recall(3), 101);
        Millrace m = twiceShipped();
        Checks.equal("first the third", m.recall(3), 101);
        Checks.equal("then only the bought one is left", m.recall(0), 201);
        Checks.equal("then none", m.recall(0), 200);
    }

    /** "all that have it as a parent, or a parent of these": not its parents, nor what has the same ones. */
    private static void onlyWhatStemsFromItIsScrapped() {
        Millrace m = Shop.withMade(1);
        m.make(1, 4, 0);
        m.make(1, 4, 0);
        m.split(0, 1);
        m.split(0, 1);
        m.join(2, 1);
        m.split(4, 2);
        Checks.equal("what was split off, joined, and split off again", m.recall(2), 2);
        int[] due = {1, 4, 4, 1, 5, 5};
        for (int batch = 0; batch < due.length; batch++) {
            Checks.equal("then the state of " + batch, m.batch(batch, 3), due[batch]);
        }
        Checks.equal("the first and what is left of it", m.recall(0), 2);
    }

    /** A recall makes it a scrapped one, and nothing else of it is changed: pieces, cost, operation, parents. */
    private static void whatIsScrappedIsToldAsItWas() {
        for (int hours = 1; hours <= 5; hours++) {
            Millrace m = Shop.withBought();
            m.addLine(1, 0, 1, -1);
            m.addOperation(1, 0, 0, 1);
            m.addOperation(1, 1, 0, 2);
            m.addMachine(1, 0, 5, 50, 1, -1);
            m.addMachine(2, 0, 3, 50, 1, -1);
            Shop.addPerson(m, 1);
            m.buy(0, 2);
            m.make(1, 2, 7);
            m.run(hours);
            int[] before = new int[10];
            for (int what = 0; what < before.length; what++) {
                before[what] = m.batch(1, what);
            }
            Checks.equal("what it is behind " + hours + " hours", before[3], hours < 4 ? 2 : 3);
            Checks.equal("its priority, on a machine and in store", before[5], 7);
            Checks.equal("scrapped by that", m.recall(1), 1);
            for (int what = 0; what < before.length; what++) {
                Checks.equal(hours + " hours, then " + what, m.batch(1, what), what == 3 ? 5 : before[what]);
            }
            Checks.equal("its parent", m.parent(1, 0), 0);
            Checks.equal("its origin", m.origin(1, 0), 0);
        }
    }

    /** What came, waited or was on a machine was not in the store, and takes nothing out of it. */
    private static void theStoreLosesOnlyWhatWasInIt() {
        Millrace m = new Millrace();
        m.setBought(0, 1, 0);
        m.addOperation(1, 0, 0, 3);
        Shop.addMachine(m, 1);
        Shop.addPerson(m, 1);
        for (int i = 0; i < 3; i++) {
            m.make(1, 2, 9 - i);
        }
        m.buy(0, 4);
        m.run(4);
        m.buy(0, 3);
        Checks.equal("in store", m.store(0, 0) * 10 + m.store(1, 0), 42);
        m.order(0, 9, 0);
        m.order(1, 9, 0);
        Checks.equal("on the machine", m.batch(1, 3), 2);
        Checks.equal("what comes, waits, and is on the machine", m.recall(4) + m.recall(2) + m.recall(1), 3);
        Checks.equal("still in store", m.store(0, 0) * 10 + m.store(1, 0), 42);
        Checks.equal("all of it can be promised", m.promise(0) * 10 + m.promise(1), 42);
        Checks.equal("what is in store", m.recall(0) + m.recall(3), 2);
        Checks.equal("nothing is in store", m.store(0, 0) * 10 + m.store(1, 0), 0);
    }

    /** "leaving their machines as told": only the machines of what is scrapped. */
    private static void otherMachinesGoOn() {
        Millrace m = Shop.withMade(5);
        for (int i = 0; i < 3; i++) {
            Shop.addMachine(m, 1);
            Shop.addPerson(m, 1);
            m.make(1, 1, 0);
        }
        m.run(3);
        m.recall(1);
        int[][] due = {{0, 3, 0, 2, 1, 0}, {-1, 0, -1, 2, 1, 0}, {2, 3, 2, 2, 1, 0}};
        for (int machine = 0; machine < 3; machine++) {
            for (int what = 0; what <= 5; what++) {
                Checks.equal("machine " + machine + ", " + what, m.machine(machine, what), due[machine][what]);
            }
            Checks.equal("where " + machine + " is", m.machineOf(machine), machine == 1 ? -1 : machine);
        }
        m.recall(0);
        Checks.equal("the last goes on", m.machine(2, 0), 2);
        m.run(3);
        Checks.equal("and is done", m.batch(2, 3), 3);
    }

    /** "if the machine's wear is the limit or more, it needs a repair": at once, which begins in the next hour. */
    private static void aMachineAtItsLimitNeedsARepair() {
        for (int limit = 1; limit <= 5; limit++) {
            Millrace m = Shop.withMade(9);
            m.addMachine(1, 0, 1, limit, 2, -1);
            Shop.addPerson(m, 1);
            m.make(1, 1, 0);
            m.run(4);
            m.recall(0);
            Checks.equal("worn by 3 of " + limit, m.machine(0, 5), limit <= 3 ? 1 : 0);
            m.make(1, 1, 0);
            Checks.equal("whether it can begin", m.why(1, 0), limit <= 3 ? 4 : 0);
            m.run(1);
            Checks.equal("the repair begins", m.machine(0, 5), limit <= 3 ? 2 : 0);
            m.run(2);
            Checks.equal("and is over", m.machine(0, 5), 0);
            Checks.equal("it has its batch", m.machine(0, 0), 1);
        }
    }

    /** What is scrapped is neither in a queue nor in a store any more. */
    private static void scrappedBatchesLeaveRoom() {
        Millrace m = Shop.withMade(1);
        m.setQueue(0, 1);
        m.make(1, 1, 0);
        m.rank(0, 5, true);
        Checks.noState("no room", m, () -> m.make(1, 1, 0));
        m.recall(0);
        Checks.equal("none waits", m.queued(0, 0), -1);
        Checks.equal("room", m.make(1, 1, 0), 1);
        m.buy(0, 20);
        m.run(1);
        m.buy(0, 20);
        m.run(1);
        Checks.equal("no room in store", m.batch(3, 3), 0);
        m.recall(2);
        m.run(1);
        Checks.equal("room in store", m.batch(3, 3), 3);
        Checks.equal("the pieces in store", m.store(0, 0), 20);
    }

    /** Two batches of kind 0 in store, of 6 and of that many pieces, and an order that was promised some. */
    private static int promisedAfterRecall(int pieces, int promised) {
        Millrace m = Shop.withBought();
        m.buy(0, 6);
        m.buy(0, pieces);
        m.run(1);
        m.order(0, promised, 0);
        m.promise(0);
        m.recall(0);
        Checks.equal("promised of the kind", m.store(0, 1), m.told(0, 3));
        return m.told(0, 3);
    }

    /** "What is promised of a kind is never more than there is of it in store": just as much may be. */
    private static void promisesAreKeptWhileThereIsEnough() {
        Checks.equal("less than there is", promisedAfterRecall(5, 4), 4);
        Checks.equal("just what there is", promisedAfterRecall(5, 5), 5);
        Checks.equal("1 more than there is", promisedAfterRecall(5, 6), 5);
        Checks.equal("6 more than there is", promisedAfterRecall(5, 11), 5);
        Checks.equal("of a last piece", promisedAfterRecall(1, 7), 1);
    }

    /** Orders 0 to 2 of 3 pieces each, all promised, of 9 in store; then so many are recalled. */
    private static void losing(int recalled, int... due) {
        Millrace m = Shop.withBought();
        for (int i = 0; i < 9; i++) {
            m.buy(0, 1);
        }
        m.run(1);
        for (int order = 0; order < 3; order++) {
            m.order(0, 3, 0);
        }
        m.promise(2);
        m.promise(0);
        m.promise(1);
        for (int batch = 0; batch < recalled; batch++) {
            m.recall(batch);
        }
        for (int order = 0; order < 3; order++) {
            Checks.equal(recalled + " recalled, order " + order, m.told(order, 3), due[order]);
        }
    }

    /** "if it would be, the orders with the highest numbers lose". */
    private static void theHighestOrdersLoseFirst() {
        losing(0, 3, 3, 3);
        losing(1, 3, 3, 2);
        losing(3, 3, 3, 0);
        losing(4, 3, 2, 0);
        losing(6, 3, 0, 0);
        losing(7, 2, 0, 0);
        losing(9, 0, 0, 0);
    }

    /** Orders of another kind, and those that were shipped, keep what they were promised. */
    private static void otherOrdersLoseNothing() {
        Millrace m = Shop.withBought();
        m.setBought(1, 1, 0);
        m.buy(0, 2);
        m.buy(0, 2);
        m.buy(1, 3);
        m.run(1);
        m.order(0, 2, 0);
        m.order(0, 2, 0);
        m.order(1, 3, 0);
        for (int order = 0; order < 3; order++) {
            m.promise(order);
        }
        m.ship(1);
        Checks.equal("what is left in store", m.recall(1), 1);
        Checks.equal("what was shipped of the first", m.recall(0), 100);
        Checks.equal("it loses all", m.told(0, 3), 0);
        Checks.equal("shipped", m.told(1, 3), 2);
        Checks.equal("of another kind", m.told(2, 3), 3);
        Checks.equal("promised of the kinds", m.store(0, 1) * 10 + m.store(1, 1), 3);
    }

    /** What is scrapped behind the recalled one was promised, too: of its kind there is nothing left. */
    private static void ordersOfWhatStemsFromItLose() {
        Millrace m = twiceShipped();
        m.order(1, 1, 0);
        m.order(0, 9, 0);
        Checks.equal("promised of what is left of the made ones", m.promise(2), 1);
        Checks.equal("promised of what is left of the bought ones", m.promise(3), 9);
        m.recall(3);
        Checks.equal("the made one is scrapped", m.told(2, 3), 0);
        Checks.equal("the bought ones are not", m.told(3, 3), 9);
        m = twiceShipped();
        m.order(1, 1, 0);
        m.promise(2);
        Checks.equal("the bought one and the piece made of it", m.recall(0), 202);
        Checks.equal("of another kind than the recalled one", m.told(2, 3), 0);
        Checks.equal("promised of it", m.store(1, 1), 0);
    }
}
