/** Promises 10 to 16: batches are bought, made, ranked, split, joined and recalled. */
final class BatchesTest {
    public static void main(String[] args) {
        buyOrdersABatch();
        buyRefuses();
        lateLetsABatchComeLater();
        lateRefuses();
        makeBeginsABatch();
        makeRefuses();
        rankSetsPriorityAndFreezes();
        rankRefuses();
        splitDividesTheCost();
        splitKeepsAllElse();
        splitRefuses();
        joinMakesANewOneOfBoth();
        joinRefuses();
        recallScrapsAllThatStemsFromIt();
        recallLooksAtBatchesThatAreGone();
        recallFreesTheMachine();
        recallTakesPromisesFromTheLastOrders();
        recallRefuses();
        Checks.end("BatchesTest");
    }

    private static void told(String what, Millrace m, int batch, int... due) {
        for (int i = 0; i < due.length; i++) {
            Checks.equal(what + ", batch " + batch + ", " + i, m.batch(batch, i), due[i]);
        }
    }

    private static void buyOrdersABatch() {
        Millrace m = new Millrace();
        m.setBought(3, 7, 5);
        m.run(2);
        Checks.equal("its number", m.buy(3, 20), 0);
        told("it comes", m, 0, 3, 20, 140, 0, 0, 0, 0, 0, 0, 7);
        Checks.equal("the next number", m.buy(3, 1), 1);
        Checks.equal("bought", m.ledger(0), 147);
        Checks.equal("in the factory", m.ledger(2), 147);
        Checks.equal("not in store", m.store(3, 0), 0);
        m.run(5);
        told("not yet", m, 0, 3, 20, 140, 0);
        m.run(1);
        told("there", m, 0, 3, 20, 140, 3, 0, 0, 0, 0, 0, 7);
    }

    private static void buyRefuses() {
        Millrace m = Shop.withMade(1);
        Checks.noIndex("kind 12", m, () -> m.buy(12, 0));
        Checks.noIndex("kind -1", m, () -> m.buy(-1, 1));
        Checks.noArgument("pieces 0", m, () -> m.buy(0, 0));
        Checks.noArgument("pieces 21", m, () -> m.buy(0, 21));
        Checks.noArgument("pieces 21 of a made one", m, () -> m.buy(1, 21));
        Checks.noState("a made one", m, () -> m.buy(1, 1));
        Checks.noState("nothing yet", m, () -> m.buy(2, 1));
        Shop.fill(m, 59);
        Checks.equal("the last one", m.buy(0, 1), 59);
        Checks.noState("60 were made", m, () -> m.buy(0, 1));
        Checks.noArgument("60 were made, and pieces 0", m, () -> m.buy(0, 0));
    }

    private static void lateLetsABatchComeLater() {
        Millrace m = new Millrace();
        m.setBought(0, 1, 2);
        m.buy(0, 1);
        Checks.equal("3 hours later", m.late(0, 3), 5);
        Checks.equal("30 hours later still", m.late(0, 30), 35);
        Checks.equal("told", m.batch(0, 9), 35);
        m.run(35);
        Checks.equal("not yet", m.batch(0, 3), 0);
        m.run(1);
        Checks.equal("there", m.batch(0, 3), 3);
        Checks.equal("the hour at which it came", m.batch(0, 9), 35);
        m.setStore(0, 0);
        m.buy(0, 1);
        m.run(10);
        Checks.equal("overdue, as there is no room", m.batch(1, 9), 38);
        Checks.equal("later than it was to come", m.late(1, 2), 40);
        m.setStore(0, 9);
        m.run(1);
        Checks.equal("there", m.batch(1, 3), 3);
        Checks.equal("the hour at which it came", m.batch(1, 9), 46);
    }

    private static void lateRefuses() {
        Millrace m = new Millrace();
        m.setBought(0, 1, 2);
        m.buy(0, 1);
        Checks.noIndex("batch 1", m, () -> m.late(1, 0));
        Checks.noIndex("batch -1", m, () -> m.late(-1, 1));
        Checks.noArgument("hours 0", m, () -> m.late(0, 0));
        Checks.noArgument("hours 31", m, () -> m.late(0, 31));
        m.run(3);
        Checks.noState("it is in store", m, () -> m.late(0, 1));
        Checks.noArgument("it is in store, and hours 0", m, () -> m.late(0, 0));
        m.addOperation(1, 0, 0, 1);
        m.make(1, 1, 0);
        Checks.noState("it waits", m, () -> m.late(1, 1));
        m.buy(0, 1);
        m.recall(2);
        Checks.noState("it is scrapped", m, () -> m.late(2, 1));
    }

    private static void makeBeginsABatch() {
        Millrace m = new Millrace();
        m.addOperation(5, 2, 0, 1);
        m.addOperation(5, 1, 0, 1);
        Checks.equal("its number", m.make(5, 20, 9), 0);
        told("it waits", m, 0, 5, 20, 0, 1, 0, 9, 0, 0, 0, -1);
        Checks.equal("in the queue of the first operation", m.queued(2, 0), 0);
        Checks.equal("not of the second", m.queue(1), 0);
        Checks.equal("the next number", m.make(5, 1, 0), 1);
        Checks.equal("no cost", m.ledger(2), 0);
    }

    private static void makeRefuses() {
        Millrace m = Shop.withMade(1);
        Checks.noIndex("kind 12", m, () -> m.make(12, 0, 0));
        Checks.noIndex("kind -1", m, () -> m.make(-1, 1, 0));
        Checks.noArgument("pieces 0", m, () -> m.make(1, 0, 0));
        Checks.noArgument("pieces 21", m, () -> m.make(1, 21, 0));
        Checks.noArgument("priority -1", m, () -> m.make(1, 1, -1));
        Checks.noArgument("priority 10", m, () -> m.make(1, 1, 10));
        Checks.noArgument("priority 10 of a bought one", m, () -> m.make(0, 1, 10));
        Checks.noState("a bought one", m, () -> m.make(0, 1, 0));
        Checks.noState("nothing yet", m, () -> m.make(2, 1, 0));
        m.setQueue(0, 1);
        m.make(1, 1, 0);
        Checks.noState("no room", m, () -> m.make(1, 1, 0));
        m.rank(0, 0, true);
        Checks.noState("a frozen one takes room, too", m, () -> m.make(1, 1, 0));
        m.setQueue(0, 60);
        Shop.fill(m, 59);
        Checks.equal("the last one", m.make(1, 1, 0), 59);
        Checks.noState("60 were made", m, () -> m.make(1, 1, 0));
    }

    private static void rankSetsPriorityAndFreezes() {
        Millrace m = Shop.working(1);
        m.make(1, 1, 5);
        m.make(1, 1, 4);
        Checks.isTrue("was not frozen", !m.rank(0, 3, true));
        told("frozen", m, 0, 1, 1, 0, 1, 0, 3, 1);
        Checks.equal("it waits behind the other", m.queued(0, 1), 0);
        Checks.isTrue("was frozen", m.rank(0, 9, true));
        Checks.equal("it waits first", m.queued(0, 0), 0);
        m.run(2);
        Checks.equal("the other one went first", m.batch(1, 3), 3);
        told("the frozen one still waits", m, 0, 1, 1, 0, 1);
        Checks.isTrue("was frozen", m.rank(0, 0, false));
        Checks.isTrue("was not frozen", !m.rank(0, 0, false));
        m.run(1);
        Checks.equal("it goes on", m.batch(0, 3), 2);
    }

    private static void rankRefuses() {
        Millrace m = Shop.working(1);
        m.make(1, 1, 0);
        Checks.noIndex("batch 1", m, () -> m.rank(1, 10, true));
        Checks.noIndex("batch -1", m, () -> m.rank(-1, 0, true));
        Checks.noArgument("priority -1", m, () -> m.rank(0, -1, true));
        Checks.noArgument("priority 10", m, () -> m.rank(0, 10, true));
        m.run(1);
        Checks.noState("on a machine", m, () -> m.rank(0, 0, true));
        Checks.noArgument("on a machine, and priority 10", m, () -> m.rank(0, 10, true));
        m.run(1);
        Checks.noState("in store", m, () -> m.rank(0, 0, true));
        m.buy(0, 1);
        Checks.noState("coming", m, () -> m.rank(1, 0, false));
    }

    /** Batch 1: 3 pieces that cost 8 (5 for an hour, 1 for each part), waiting for the second of two operations. */
    private static Millrace halfDone() {
        Millrace m = new Millrace();
        m.setBought(0, 1, 0);
        m.addLine(1, 0, 1, -1);
        m.addOperation(1, 0, 0, 1);
        m.addOperation(1, 1, 0, 1);
        m.addMachine(1, 0, 5, 50, 1, -1);
        Shop.addPerson(m, 1);
        Shop.stocked(m, 0, 3);
        m.make(1, 3, 4);
        m.run(2);
        return m;
    }

    private static void splitDividesTheCost() {
        Millrace m = halfDone();
        told("before", m, 1, 1, 3, 8, 1, 1, 4, 0, 0, 1, -1);
        Checks.equal("its number", m.split(1, 2), 2);
        told("split off: 8 times 2 by 3, rounded down", m, 2, 1, 2, 5, 1, 1, 4, 0, 0, 1, -1);
        told("the rest", m, 1, 1, 1, 3, 1, 1, 4, 0, 0, 1, -1);
        Checks.equal("its only parent", m.parent(2, 0), 1);
        Checks.equal("it stems from the bought one", m.origin(2, 0), 0);
        Checks.equal("both wait", m.queue(1), 2);
        Checks.equal("nothing is lost", m.ledger(2), 8);
    }

    private static void splitKeepsAllElse() {
        Millrace m = Shop.sentBack();
        int part = m.split(0, 1);
        Checks.equal("was sent back, too", m.batch(part, 7), 1);
        Checks.equal("the operation", m.batch(part, 4), m.batch(0, 4));
        Checks.equal("the priority", m.batch(part, 5), 6);
    }

    private static void splitRefuses() {
        Millrace m = Shop.working(1);
        m.make(1, 3, 0);
        Checks.noIndex("batch 1", m, () -> m.split(1, 0));
        Checks.noIndex("batch -1", m, () -> m.split(-1, 1));
        Checks.noArgument("pieces 0", m, () -> m.split(0, 0));
        Checks.noArgument("pieces -1", m, () -> m.split(0, -1));
        Checks.noArgument("all pieces", m, () -> m.split(0, 3));
        Checks.noArgument("more pieces", m, () -> m.split(0, Integer.MAX_VALUE));
        m.rank(0, 0, true);
        Checks.noState("it is frozen", m, () -> m.split(0, 1));
        Checks.noArgument("it is frozen, and all pieces", m, () -> m.split(0, 3));
        m.rank(0, 0, false);
        m.setQueue(0, 1);
        Checks.noState("no room in its queue", m, () -> m.split(0, 1));
        m.setQueue(0, 2);
        m.split(0, 1);
        m.run(1);
        Checks.noState("it is on a machine", m, () -> m.split(0, 1));
        Millrace full = Shop.withMade(1);
        full.make(1, 3, 0);
        Shop.fill(full, 60);
        Checks.noState("60 were made", full, () -> full.split(0, 1));
    }

    private static void joinMakesANewOneOfBoth() {
        Millrace m = halfDone();
        m.split(1, 2);
        m.rank(2, 7, false);
        Checks.equal("its number", m.join(2, 1), 3);
        told("both", m, 3, 1, 3, 8, 1, 1, 7, 0, 0, 2, -1);
        told("the one is gone", m, 1, 1, 0, 0, 4, 1, 4, 0, 0, 1);
        told("the other, too", m, 2, 1, 0, 0, 4, 1, 7, 0, 0, 1);
        Checks.equal("the lower parent", m.parent(3, 0), 1);
        Checks.equal("the higher parent", m.parent(3, 1), 2);
        Checks.equal("one waits", m.queue(1), 1);
        m.split(3, 1);
        m.setQueue(1, 0);
        Checks.equal("it needs no room: two leave the queue", m.join(3, 4), 5);
    }

    private static void joinRefuses() {
        Millrace m = Shop.withMade(1);
        m.addOperation(2, 0, 0, 1);
        m.make(1, 1, 0);
        m.make(1, 1, 0);
        m.make(2, 1, 0);
        Checks.noIndex("batch 3", m, () -> m.join(3, 0));
        Checks.noIndex("other 3", m, () -> m.join(0, 3));
        Checks.noIndex("both 3", m, () -> m.join(3, 3));
        Checks.noIndex("other -1", m, () -> m.join(0, -1));
        Checks.noArgument("both are the same", m, () -> m.join(1, 1));
        Checks.noState("another kind", m, () -> m.join(0, 2));
        m.rank(1, 0, true);
        Checks.noState("the other one is frozen", m, () -> m.join(0, 1));
        Checks.noState("the one is frozen", m, () -> m.join(1, 0));
        m.rank(1, 0, false);
        m.buy(0, 1);
        Checks.noState("the one is coming", m, () -> m.join(3, 0));
        Checks.noState("the other is coming", m, () -> m.join(0, 3));
        Shop.fill(m, 60);
        Checks.noState("60 were made", m, () -> m.join(0, 1));
        Millrace half = halfDone();
        half.make(1, 3, 4);
        Checks.noState("another operation", half, () -> half.join(1, 2));
    }

    /** Batch 0 bought, 1 made of it and split into 2, all done but 0; 3 shipped of both, 1 piece left in 2. */
    private static Millrace shipped() {
        Millrace m = new Millrace();
        m.setBought(0, 3, 0);
        m.addLine(1, 0, 1, -1);
        m.addOperation(1, 0, 0, 1);
        Shop.addMachine(m, 1);
        Shop.addPerson(m, 1);
        Shop.stocked(m, 0, 6);
        m.make(1, 4, 0);
        m.split(1, 2);
        m.run(3);
        m.order(1, 3, 0);
        m.promise(0);
        m.ship(0);
        return m;
    }

    private static void recallScrapsAllThatStemsFromIt() {
        Millrace m = shipped();
        told("the bought one", m, 0, 0, 2, 6, 3);
        told("all shipped", m, 1, 1, 0, 0, 4);
        told("one left", m, 2, 1, 1, 3, 3);
        told("shipped", m, 3, 1, 3, 9, 6);
        Checks.equal("2 scrapped, 1 shipped", m.recall(0), 102);
        told("the bought one", m, 0, 0, 2, 6, 5);
        told("it stays gone", m, 1, 1, 0, 0, 4);
        told("scrapped", m, 2, 1, 1, 3, 5);
        told("it stays shipped", m, 3, 1, 3, 9, 6);
        Checks.equal("pieces in store", m.store(1, 0) + m.store(0, 0), 0);
        Checks.equal("ledger, scrapped", m.ledger(3), 9);
        Checks.equal("ledger, in the factory", m.ledger(2), 0);
        Checks.equal("again: none more is scrapped", m.recall(0), 100);
        Checks.equal("the shipped one alone", m.recall(3), 100);
    }

    private static void recallLooksAtBatchesThatAreGone() {
        Millrace m = shipped();
        Checks.equal("by one that is gone", m.recall(1), 101);
        Checks.equal("its split-off is scrapped", m.batch(2, 3), 5);
        Checks.equal("its parent is not", m.batch(0, 3), 3);
        Millrace early = Shop.withMade(1);
        early.addLine(2, 0, 1, -1);
        early.addOperation(2, 0, 0, 1);
        Shop.addMachine(early, 1);
        Shop.addPerson(early, 1);
        early.make(2, 1, 0);
        early.make(2, 1, 0);
        early.buy(0, 2);
        early.run(3);
        Checks.equal("a parent can have the higher number", early.parent(0, 0), 2);
        Checks.equal("both are found, and itself is gone", early.recall(2), 2);
        Millrace down = Shop.withBought();
        for (int kind = 1; kind < 4; kind++) {
            down.addLine(kind, kind - 1, 1, -1);
            down.addOperation(kind, 0, 0, 1);
        }
        Shop.addMachine(down, 1);
        Shop.addPerson(down, 1);
        for (int kind = 3; kind > 0; kind--) {
            down.make(kind, 1, 0);
        }
        down.buy(0, 2);
        down.run(4);
        Checks.equal("parents of higher numbers, all the way down", down.parent(0, 0), 1);
        Checks.equal("what is left of it, and what came of it", down.recall(3), 2);
        Checks.equal("down to the lowest number", down.batch(0, 3), 5);
        Millrace coming = new Millrace();
        coming.setBought(0, 1, 9);
        coming.buy(0, 1);
        Checks.equal("one that comes", coming.recall(0), 1);
        coming.run(20);
        told("it does not come any more", coming, 0, 0, 1, 1, 5, 0, 0, 0, 0, 0, 9);
    }

    private static void recallFreesTheMachine() {
        Millrace m = Shop.withMade(9);
        m.addMachine(1, 0, 1, 3, 4, -1);
        Shop.addPerson(m, 1);
        m.make(1, 1, 0);
        m.run(3);
        Checks.equal("one is scrapped", m.recall(0), 1);
        int[] due = {-1, 0, -1, 2, 1, 0};
        for (int what = 0; what <= 5; what++) {
            Checks.equal("the machine, " + what, m.machine(0, what), due[what]);
        }
        Checks.equal("the person is free", m.machineOf(0), -1);
        Checks.equal("what it cost", m.ledger(3), 2);
        m.make(1, 1, 0);
        m.run(2);
        m.recall(1);
        Checks.equal("at the limit it needs a repair", m.machine(0, 5), 1);
        m.make(1, 1, 0);
        m.rank(2, 0, true);
        Checks.equal("a frozen one", m.recall(2), 1);
        Checks.equal("does not wait", m.queue(0), 0);
    }

    private static void recallTakesPromisesFromTheLastOrders() {
        Millrace m = Shop.withBought();
        m.setStore(0, 99);
        m.buy(0, 10);
        m.buy(0, 10);
        m.run(1);
        m.order(0, 8, 0);
        m.order(0, 3, 0);
        m.order(0, 6, 0);
        m.order(0, 2, 0);
        m.promise(3);
        m.promise(2);
        m.promise(0);
        m.promise(1);
        m.ship(3);
        m.recall(1);
        Checks.equal("8 pieces left", m.store(0, 0), 8);
        Checks.equal("8 of them promised", m.store(0, 1), 8);
        Checks.equal("order 0 keeps all", m.told(0, 3), 8);
        Checks.equal("order 1 loses all", m.told(1, 3), 0);
        Checks.equal("order 2 loses all", m.told(2, 3), 0);
        Checks.equal("order 3 was shipped", m.told(3, 3), 2);
        Millrace some = Shop.withBought();
        some.buy(0, 4);
        some.buy(0, 6);
        some.run(1);
        some.order(0, 3, 0);
        some.order(0, 7, 0);
        some.promise(0);
        some.promise(1);
        some.recall(0);
        Checks.equal("the first keeps all", some.told(0, 3), 3);
        Checks.equal("the last loses what is too much", some.told(1, 3), 3);
        some.buy(0, 1);
        some.run(1);
        some.promise(1);
        Checks.equal("7 pieces, all promised", some.store(0, 1), 7);
        some.recall(2);
        Checks.equal("1 is too much", some.told(1, 3), 3);
        some.recall(1);
        Checks.equal("the last order loses all", some.told(1, 3), 0);
        Checks.equal("the first one, too", some.told(0, 3), 0);
        Checks.equal("nothing is promised", some.store(0, 1), 0);
    }

    private static void recallRefuses() {
        Millrace m = Shop.withBought();
        m.buy(0, 1);
        Checks.noIndex("batch 1", m, () -> m.recall(1));
        Checks.noIndex("batch -1", m, () -> m.recall(-1));
    }
}
