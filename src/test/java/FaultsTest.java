/** Wear, the faults that come of it, what is done again, and repairs. */
final class FaultsTest {
    /** A machine with this limit, worn by 3 of it, can only do with a fault what it does. */
    private static final int ALWAYS = 1;

    public static void main(String[] args) {
        faultsAreDrawnByTheRule();
        aFaultIsDrawnOnce();
        aFaultIsFoundTwoOperationsLater();
        aFaultIsFoundAtTheLastOperation();
        ofSeveralFaultsTheFirstCounts();
        whatIsDoneAgainCanBeDoneWell();
        whatGoesBackNeedsRoom();
        whatWasSentBackTakesNoPartsAgain();
        norDoesWhatIsJoinedWithIt();
        splitAndJoinedBatchesKeepFaults();
        aJoinedBatchWasSentBackIfOneWas();
        aWornMachineIsRepaired();
        aRepairTakesAPiece();
        Checks.end("FaultsTest");
    }

    /** One hour of work on a machine that is worn by it alone, in each of some hours, by batches of some numbers. */
    private static void faultsAreDrawnByTheRule() {
        int faults = 0;
        for (int limit = 1; limit <= 5; limit++) {
            for (int start = 0; start < 11; start++) {
                for (int number = 0; number < 3; number++) {
                    Millrace m = Shop.withMade(1);
                    m.addMachine(1, 0, 0, limit, 1, -1);
                    Shop.addPerson(m, 1);
                    Shop.fill(m, number);
                    Shop.pass(m, start + 1);
                    m.make(1, 1, 0);
                    m.run(2);
                    int hour = start + 2;
                    int due = (7 * number + 3 * hour) % 11 < 4 / limit ? 1 : 0;
                    Checks.equal("limit " + limit + ", hour " + hour + ", batch " + number, m.batch(number, 7), due);
                    faults += due;
                }
            }
        }
        Checks.isTrue("some have a fault", faults > 10);
        for (int start = 0; start < 11; start++) {
            Millrace m = new Millrace();
            m.addOperation(0, 1, 0, 1);
            m.addOperation(0, 0, 0, 2);
            m.addMachine(1, 0, 0, 3, 1, -1);
            Shop.addMachine(m, 2);
            Shop.addPerson(m, 1);
            Shop.pass(m, start + 1);
            m.make(0, 1, 0);
            m.run(4);
            int hour = start + 4;
            int due = (5 + 3 * hour) % 11 < 4 * 2 / 3 ? 1 : 0;
            Checks.equal("the second operation, worn by 2 of 3, hour " + hour, m.batch(0, 7), due);
        }
    }

    private static void aFaultIsDrawnOnce() {
        Millrace m = Shop.withMade(1);
        m.addMachine(1, 0, 0, 2, 1, -1);
        Shop.addPerson(m, 1);
        m.setStore(1, 0);
        m.make(1, 1, 0);
        m.run(20);
        Checks.equal("it stays on the machine", m.batch(0, 3), 2);
        m.setStore(1, 1);
        m.run(1);
        Checks.equal("it goes into store", m.batch(0, 3), 3);
        Checks.equal("it has no fault", m.batch(0, 7), 0);
    }

    /**
     * A route of these classes. What class 0 does is done in 3 hours, on a machine that always works with a fault,
     * and is repaired in the hour behind; what class 1 does takes an hour, and is done well.
     */
    private static Millrace route(int... classes) {
        Millrace m = new Millrace();
        for (int work : classes) {
            m.addOperation(0, work, work, work == 0 ? 3 : 1);
        }
        m.addMachine(1, 0, 2, ALWAYS, 1, -1);
        m.addMachine(2, 0, 1, 50, 1, -1);
        m.addPerson(1, 0, 24);
        m.setLevel(0, 0, 1);
        m.addPerson(0, 0, 24);
        m.setLevel(1, 1, 1);
        m.make(0, 2, 0);
        return m;
    }

    private static void stands(String what, Millrace m, int state, int operation, int back) {
        Checks.equal(what + ": what it is", m.batch(0, 3), state);
        Checks.equal(what + ": its operation", m.batch(0, 4), operation);
        Checks.equal(what + ": whether it was sent back", m.batch(0, 7), back);
    }

    private static void aFaultIsFoundTwoOperationsLater() {
        Millrace m = route(0, 1, 1, 1);
        m.run(4);
        stands("the hour 3, fault at 0", m, 2, 1, 0);
        m.run(1);
        stands("the hour 4, not found at 1", m, 2, 2, 0);
        m.setQueue(0, 0);
        m.run(1);
        stands("the hour 5, found at 2, no room", m, 2, 2, 0);
        m.setQueue(0, 9);
        m.run(1);
        stands("the hour 6, sent back to 0 and begun again", m, 2, 0, 1);
        Checks.equal("it cost 9, 1 and 1", m.batch(0, 2), 11);
        m.run(3);
        stands("the hour 9, fault at 0 again", m, 2, 1, 1);
        m.run(1);
        stands("the hour 10", m, 2, 2, 1);
        m.run(1);
        stands("the hour 11, scrapped", m, 5, 2, 1);
        Checks.equal("it cost twice that", m.ledger(3), 22);
        Checks.equal("nothing is in the factory", m.ledger(2), 0);
        Checks.equal("all of it was worked", m.ledger(1), 22);
        Checks.equal("the machine is free", m.machine(1, 0), -1);
        Checks.equal("the person is free", m.machineOf(1), -1);
        Checks.equal("its pieces stay", m.batch(0, 1), 2);
    }

    private static void aFaultIsFoundAtTheLastOperation() {
        Millrace two = route(0, 1);
        two.run(4);
        stands("two operations, the hour 3", two, 2, 1, 0);
        two.run(1);
        stands("two operations, the hour 4, found at the last", two, 2, 0, 1);
        Millrace one = route(0);
        one.run(4);
        stands("one operation, the hour 3, found at once", one, 1, 0, 1);
        one.run(5);
        stands("one operation, scrapped", one, 5, 0, 1);
        Millrace last = route(1, 1, 0);
        last.run(6);
        stands("the last of three, found at once", last, 1, 2, 1);
        Millrace middle = route(1, 0, 1, 1);
        middle.run(5);
        stands("the second of four, the hour 4", middle, 2, 2, 0);
        middle.run(1);
        stands("the second of four, the hour 5, not found at 2", middle, 2, 3, 0);
        middle.run(1);
        stands("the second of four, the hour 6, found at 3", middle, 2, 1, 1);
    }

    private static void ofSeveralFaultsTheFirstCounts() {
        Millrace m = route(1, 0, 0);
        m.run(5);
        stands("the hour 4, fault at 1", m, 1, 2, 0);
        m.run(1);
        stands("the hour 5, the repair is done", m, 2, 2, 0);
        m.run(3);
        stands("the hour 8, faults at 1 and 2, back to 1", m, 1, 1, 1);
        m.run(1);
        stands("the hour 9, begun again", m, 2, 1, 1);
        m.run(4);
        stands("the hour 13, a new fault at 1, none is found at 1", m, 2, 2, 1);
        m.run(3);
        stands("the hour 16, found at 2, scrapped", m, 5, 2, 1);
    }

    /** A second machine, which does the class 0 well, takes over while the first one lacks what its repair takes. */
    private static void whatIsDoneAgainCanBeDoneWell() {
        Millrace one = Shop.sentBack();
        Shop.addMachine(one, 1);
        one.run(5);
        stands("one operation, done again", one, 3, 1, 1);
        Millrace m = new Millrace();
        m.setBought(11, 1, 0);
        m.addOperation(0, 1, 1, 1);
        m.addOperation(0, 0, 0, 3);
        m.addOperation(0, 0, 0, 3);
        m.addMachine(1, 0, 0, ALWAYS, 1, 11);
        Shop.addMachine(m, 2);
        Shop.addPerson(m, 1);
        m.make(0, 1, 0);
        m.buy(11, 1);
        m.run(9);
        stands("faults at 1 and 2, back to 1", m, 1, 1, 1);
        Shop.addMachine(m, 1);
        m.run(10);
        stands("both operations, done again", m, 3, 3, 1);
    }

    private static void whatGoesBackNeedsRoom() {
        Millrace m = route(0);
        m.setQueue(0, 0);
        m.run(9);
        stands("no room in its queue", m, 2, 0, 0);
        Checks.equal("it stays", m.machine(0, 0), 0);
        Checks.equal("no hours are left", m.machine(0, 1), 0);
        Checks.equal("no repair yet", m.machine(0, 5), 0);
        Checks.equal("no more wear", m.machine(0, 3), 3);
        m.setStore(0, 0);
        m.setQueue(0, 1);
        m.run(1);
        stands("it goes back", m, 1, 0, 1);
        m.setQueue(0, 0);
        m.run(6);
        stands("what is scrapped needs no room", m, 5, 0, 1);
    }

    private static void whatWasSentBackTakesNoPartsAgain() {
        Millrace m = Shop.withBought();
        m.addLine(1, 0, 1, -1);
        m.addOperation(1, 0, 0, 3);
        m.addMachine(1, 0, 0, ALWAYS, 1, -1);
        Shop.addPerson(m, 1);
        m.buy(0, 2);
        m.make(1, 2, 0);
        m.run(4);
        Checks.equal("it was sent back", m.batch(1, 7), 1);
        Checks.equal("with its pieces", m.batch(1, 1), 2);
        Checks.equal("with its cost", m.batch(1, 2), 20);
        Checks.equal("with its parent", m.parent(1, 0), 0);
        Checks.equal("no parts are there", m.store(0, 0), 0);
        m.run(1);
        Checks.equal("it begins all the same", m.batch(1, 3), 2);
        m.buy(0, 2);
        m.run(3);
        Checks.equal("nothing more is taken", m.store(0, 0), 2);
        Checks.equal("it is scrapped", m.batch(1, 3), 5);
        Checks.equal("with the cost of 2 parts", m.batch(1, 2), 20);
    }

    /** "unless it was sent back", "and was sent back if one was": though the other of the two took no parts. */
    private static void norDoesWhatIsJoinedWithIt() {
        Millrace m = Shop.withBought();
        m.addLine(1, 0, 1, -1);
        m.addOperation(1, 0, 0, 3);
        m.addMachine(1, 0, 0, ALWAYS, 1, -1);
        Shop.addPerson(m, 1);
        m.buy(0, 2);
        m.make(1, 2, 0);
        m.run(4);
        m.make(1, 5, 0);
        Checks.equal("joined", m.join(2, 1), 3);
        m.buy(0, 9);
        m.run(1);
        Checks.equal("begun", m.batch(3, 3), 2);
        Checks.equal("none of the 9 pieces is taken", m.store(0, 0), 9);
        Checks.equal("the two are its parents", m.batch(3, 8), 2);
        Checks.equal("its cost", m.batch(3, 2), 20);
    }

    private static void splitAndJoinedBatchesKeepFaults() {
        Millrace m = route(0, 1);
        m.setLevel(1, 1, 0);
        m.run(4);
        stands("a fault at 0, it waits for 1", m, 1, 1, 0);
        m.split(0, 1);
        m.setLevel(1, 1, 1);
        m.rank(0, 0, true);
        m.run(2);
        Checks.equal("the fault is found in what was split off", m.batch(1, 7), 1);
        m.rank(0, 0, false);
        m.run(2);
        Checks.equal("and in the rest", m.batch(0, 7), 1);
        Millrace joined = route(0, 1);
        joined.setLevel(1, 1, 0);
        joined.addMachine(1, 0, 0, 50, 1, -1);
        joined.addPerson(0, 0, 24);
        joined.setLevel(2, 0, 1);
        joined.make(0, 1, 0);
        joined.run(4);
        Checks.equal("both wait for 1", joined.queue(1), 2);
        int both = joined.join(1, 0);
        joined.setLevel(1, 1, 1);
        joined.run(2);
        Checks.equal("the fault of one is found in both", joined.batch(both, 7), 1);
    }

    private static void aJoinedBatchWasSentBackIfOneWas() {
        Millrace m = Shop.sentBack();
        m.make(1, 1, 7);
        m.make(1, 1, 2);
        int both = m.join(1, 0);
        Checks.equal("the other was", m.batch(both, 7), 1);
        Checks.equal("the greater priority", m.batch(both, 5), 7);
        int all = m.join(both, 2);
        Checks.equal("the one was", m.batch(all, 7), 1);
        Checks.equal("all pieces", m.batch(all, 1), 5);
        Checks.equal("and its cost", m.batch(all, 2), 4);
    }

    private static void repair(String what, Millrace m, int state, int wear, int batch) {
        Checks.equal(what + ": repair", m.machine(0, 5), state);
        Checks.equal(what + ": wear", m.machine(0, 3), wear);
        Checks.equal(what + ": batch", m.machine(0, 0), batch);
    }

    private static void aWornMachineIsRepaired() {
        Millrace m = Shop.withMade(2);
        m.addMachine(1, 3, 0, 4, 2, -1);
        Shop.addPerson(m, 1);
        m.run(1);
        m.make(1, 1, 1);
        m.make(1, 1, 0);
        m.run(4);
        repair("the hour 4, 2 hours left", m, 0, 3, 0);
        m.run(1);
        repair("the hour 5, worn by the limit, goes on", m, 0, 4, 0);
        m.run(1);
        repair("the hour 6, it left, the repair begins", m, 2, 5, -1);
        Checks.equal("the repairing machine takes nothing", m.why(1, 0), 4);
        m.run(1);
        repair("the hour 7, one hour of two", m, 2, 5, -1);
        m.run(1);
        repair("the hour 8, it is over, the next is taken", m, 0, 0, 1);
        Checks.equal("no setting up, as it did the kind last", m.machine(0, 1), 2);
        m.run(2);
        repair("the hour 10, below the limit", m, 0, 2, -1);
    }

    private static void aRepairTakesAPiece() {
        Millrace m = Shop.withMade(1);
        m.addMachine(1, 0, 0, 1, 1, 0);
        m.addMachine(1, 0, 0, 1, 1, 0);
        Shop.addPerson(m, 3);
        Shop.addPerson(m, 3);
        Shop.stocked(m, 0, 1);
        m.order(0, 1, 0);
        m.promise(0);
        m.make(1, 1, 0);
        m.make(1, 1, 0);
        m.run(2);
        m.recall(1);
        m.recall(2);
        m.run(3);
        Checks.equal("a promised piece is not for the first", m.machine(0, 5), 1);
        Checks.equal("nor for the second", m.machine(1, 5), 1);
        m.ship(0);
        m.buy(0, 1);
        m.run(1);
        Checks.equal("the first begins", m.machine(0, 5), 2);
        Checks.equal("the second waits", m.machine(1, 5), 1);
        Checks.equal("the batch is gone", m.batch(4, 3), 4);
        Checks.equal("what the repair took", m.ledger(5), 10);
        Checks.equal("it is not in the factory", m.ledger(2), 0);
        m.buy(0, 3);
        m.run(1);
        Checks.equal("the first is done", m.machine(0, 5), 0);
        Checks.equal("the second begins", m.machine(1, 5), 2);
        Checks.equal("what repairs took", m.ledger(5), 20);
        Checks.equal("2 of 3 pieces are left", m.store(0, 0), 2);
        m.run(1);
        Checks.equal("the second is done", m.machine(1, 5), 0);
        Checks.equal("its wear", m.machine(1, 3), 0);
        Checks.equal("no more is taken", m.store(0, 0), 2);
    }
}
