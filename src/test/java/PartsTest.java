/** Promises 1 to 6: a new object, and the parts. */
final class PartsTest {
    public static void main(String[] args) {
        aNewObjectIsEmpty();
        setBoughtMakesABoughtOne();
        setBoughtRefuses();
        addLineCountsLines();
        addLineRefuses();
        addOperationCountsOperations();
        addOperationRefuses();
        setStoreSetsTheSize();
        setStoreLetsWhatIsBeyondStay();
        setQueueSetsTheSize();
        setQueueLetsWhatIsBeyondStay();
        Checks.end("PartsTest");
    }

    private static void aNewObjectIsEmpty() {
        Millrace m = new Millrace();
        Checks.equal("hour", m.hour(), 0);
        Checks.equal("batches", m.batches(), 0);
        for (int kind = 0; kind < 12; kind++) {
            int k = kind;
            Checks.equal("pieces in store", m.store(kind, 0), 0);
            Checks.equal("promised pieces", m.store(kind, 1), 0);
            Checks.noState("earliest of nothing", m, () -> m.earliest(k));
            Checks.noState("buy of nothing", m, () -> m.buy(k, 1));
            Checks.noState("make of nothing", m, () -> m.make(k, 1, 0));
            Checks.equal("store size at first", m.setStore(kind, 20), 20);
        }
        for (int work = 0; work < 4; work++) {
            Checks.equal("queue", m.queue(work), 0);
            Checks.equal("first of a queue", m.queued(work, 0), -1);
            Checks.equal("queue size at first", m.setQueue(work, 9), 9);
        }
        for (int what = 0; what <= 5; what++) {
            Checks.equal("ledger", m.ledger(what), 0);
        }
        Checks.noIndex("no batch", m, () -> m.batch(0, 0));
        Checks.noIndex("no machine", m, () -> m.machine(0, 0));
        Checks.noIndex("no person", m, () -> m.machineOf(0));
        Checks.noIndex("no order", m, () -> m.told(0, 0));
        Checks.isTrue("does not stand", !m.stand(false));
    }

    private static void setBoughtMakesABoughtOne() {
        Millrace m = new Millrace();
        m.setBought(0, 1, 0);
        m.setBought(11, 99, 30);
        Checks.equal("earliest at once", m.earliest(0), 0);
        Checks.equal("earliest in 30 hours", m.earliest(11), 30);
        m.setBought(11, 5, 7);
        Checks.equal("earliest of the other time", m.earliest(11), 7);
        int batch = m.buy(11, 3);
        Checks.equal("cost at the other price", m.batch(batch, 2), 15);
        m.buy(0, 20);
        Checks.equal("bought", m.ledger(0), 35);
    }

    private static void setBoughtRefuses() {
        Millrace m = new Millrace();
        Checks.noIndex("kind -1", m, () -> m.setBought(-1, 1, 0));
        Checks.noIndex("kind 12", m, () -> m.setBought(12, 1, 0));
        Checks.noIndex("kind 12 and price 0", m, () -> m.setBought(12, 0, 31));
        Checks.noArgument("price 0", m, () -> m.setBought(0, 0, 0));
        Checks.noArgument("price 100", m, () -> m.setBought(0, 100, 0));
        Checks.noArgument("hours -1", m, () -> m.setBought(0, 1, -1));
        Checks.noArgument("hours 31", m, () -> m.setBought(0, 1, 31));
        m.addLine(1, 0, 1, -1);
        Checks.noState("it has a line", m, () -> m.setBought(1, 1, 0));
        m.addOperation(2, 0, 0, 1);
        Checks.noState("it has an operation", m, () -> m.setBought(2, 1, 0));
        Checks.noArgument("it has an operation, and price 0", m, () -> m.setBought(2, 0, 0));
        m.setBought(3, 4, 2);
        m.buy(3, 1);
        Checks.noState("a batch was made", m, () -> m.setBought(3, 4, 2));
        m.setBought(4, 4, 2);
    }

    private static void addLineCountsLines() {
        Millrace m = new Millrace();
        Checks.equal("first line", m.addLine(11, 10, 1, -1), 1);
        Checks.equal("second line", m.addLine(11, 0, 3, 10), 2);
        Checks.equal("third line, of the same kind", m.addLine(11, 10, 2, 0), 3);
        Checks.noState("fourth line", m, () -> m.addLine(11, 1, 1, -1));
        Checks.equal("a line of another kind", m.addLine(1, 0, 1, -1), 1);
        Checks.noState("lines alone make no made one", m, () -> m.make(11, 1, 0));
        Checks.noState("nor a plan", m, () -> m.earliest(11));
    }

    private static void addLineRefuses() {
        Millrace m = new Millrace();
        Checks.noIndex("kind 12", m, () -> m.addLine(12, 0, 1, -1));
        Checks.noIndex("kind -1", m, () -> m.addLine(-1, 0, 1, -1));
        Checks.noIndex("part 12", m, () -> m.addLine(5, 12, 1, -1));
        Checks.noIndex("part -1", m, () -> m.addLine(5, -1, 1, -1));
        Checks.noIndex("other 12", m, () -> m.addLine(5, 0, 1, 12));
        Checks.noIndex("other -2", m, () -> m.addLine(5, 0, 1, -2));
        Checks.noIndex("other 12 and many 0", m, () -> m.addLine(5, 0, 0, 12));
        Checks.noArgument("part is the kind", m, () -> m.addLine(5, 5, 1, -1));
        Checks.noArgument("part is higher", m, () -> m.addLine(5, 6, 1, -1));
        Checks.noArgument("other is the kind", m, () -> m.addLine(5, 0, 1, 5));
        Checks.noArgument("other is higher", m, () -> m.addLine(5, 0, 1, 6));
        Checks.noArgument("both are the same", m, () -> m.addLine(5, 3, 1, 3));
        Checks.noArgument("many 0", m, () -> m.addLine(5, 0, 0, -1));
        Checks.noArgument("many 4", m, () -> m.addLine(5, 0, 4, -1));
        m.setBought(5, 1, 0);
        Checks.noState("it is bought", m, () -> m.addLine(5, 0, 1, -1));
        Checks.noArgument("it is bought, and many 4", m, () -> m.addLine(5, 0, 4, -1));
        m.addOperation(6, 0, 0, 1);
        Checks.equal("a line behind an operation", m.addLine(6, 5, 1, -1), 1);
        m.make(6, 1, 0);
        Checks.noState("a batch was made", m, () -> m.addLine(6, 0, 1, -1));
        Checks.equal("a batch of its part was made", m.addLine(7, 6, 1, -1), 1);
    }

    private static void addOperationCountsOperations() {
        Millrace m = new Millrace();
        Checks.equal("first operation", m.addOperation(0, 0, 0, 1), 1);
        Checks.equal("earliest of a made one", m.earliest(0), 1);
        Checks.equal("second operation", m.addOperation(0, 3, 3, 9), 2);
        Checks.equal("third operation", m.addOperation(0, 1, 2, 4), 3);
        Checks.equal("fourth operation", m.addOperation(0, 2, 1, 5), 4);
        Checks.noState("fifth operation", m, () -> m.addOperation(0, 0, 0, 1));
        Checks.equal("all hours", m.earliest(0), 19);
        Checks.equal("it is a made one", m.make(0, 1, 0), 0);
        Checks.equal("it waits for the first class", m.queue(0), 1);
    }

    private static void addOperationRefuses() {
        Millrace m = new Millrace();
        Checks.noIndex("kind 12", m, () -> m.addOperation(12, 0, 0, 1));
        Checks.noIndex("kind -1", m, () -> m.addOperation(-1, 0, 0, 1));
        Checks.noIndex("work 4", m, () -> m.addOperation(0, 4, 0, 1));
        Checks.noIndex("work -1", m, () -> m.addOperation(0, -1, 0, 1));
        Checks.noIndex("skill 4", m, () -> m.addOperation(0, 0, 4, 1));
        Checks.noIndex("skill -1", m, () -> m.addOperation(0, 0, -1, 1));
        Checks.noIndex("skill 4 and hours 0", m, () -> m.addOperation(0, 0, 4, 0));
        Checks.noArgument("hours 0", m, () -> m.addOperation(0, 0, 0, 0));
        Checks.noArgument("hours 10", m, () -> m.addOperation(0, 0, 0, 10));
        m.setBought(0, 1, 0);
        Checks.noState("it is bought", m, () -> m.addOperation(0, 0, 0, 1));
        Checks.noArgument("it is bought, and hours 0", m, () -> m.addOperation(0, 0, 0, 0));
        m.addOperation(1, 0, 0, 1);
        m.make(1, 1, 0);
        Checks.noState("a batch was made", m, () -> m.addOperation(1, 0, 0, 1));
    }

    private static void setStoreSetsTheSize() {
        Millrace m = Shop.withBought();
        Checks.noIndex("kind 12", m, () -> m.setStore(12, 100));
        Checks.noIndex("kind -1", m, () -> m.setStore(-1, 0));
        Checks.noArgument("size -1", m, () -> m.setStore(0, -1));
        Checks.noArgument("size 100", m, () -> m.setStore(0, 100));
        Checks.equal("size before", m.setStore(0, 99), 20);
        Checks.equal("size before", m.setStore(0, 0), 99);
        Checks.equal("another kind", m.setStore(1, 5), 20);
        m.buy(0, 4);
        m.run(1);
        Checks.equal("no room in a store of 0", m.store(0, 0), 0);
        Checks.equal("set when there are batches", m.setStore(0, 3), 0);
        m.run(1);
        Checks.equal("no room for all 4 in 3", m.store(0, 0), 0);
        m.setStore(0, 4);
        m.run(1);
        Checks.equal("room for just 4", m.store(0, 0), 4);
    }

    private static void setStoreLetsWhatIsBeyondStay() {
        Millrace m = Shop.withBought();
        Shop.stocked(m, 0, 9);
        m.setStore(0, 5);
        m.buy(0, 1);
        m.run(3);
        Checks.equal("9 stay in a store of 5", m.store(0, 0), 9);
        Checks.equal("nothing more comes in", m.batch(1, 3), 0);
    }

    private static void setQueueSetsTheSize() {
        Millrace m = Shop.withMade(1);
        Checks.noIndex("class 4", m, () -> m.setQueue(4, 61));
        Checks.noIndex("class -1", m, () -> m.setQueue(-1, 0));
        Checks.noArgument("size -1", m, () -> m.setQueue(0, -1));
        Checks.noArgument("size 61", m, () -> m.setQueue(0, 61));
        Checks.equal("size before", m.setQueue(0, 60), 9);
        Checks.equal("size before", m.setQueue(0, 0), 60);
        Checks.equal("another class", m.setQueue(3, 2), 9);
        Checks.noState("no room in a queue of 0", m, () -> m.make(1, 1, 0));
        m.setQueue(0, 2);
        m.make(1, 1, 0);
        m.make(1, 1, 0);
        Checks.noState("no room for a third", m, () -> m.make(1, 1, 0));
    }

    private static void setQueueLetsWhatIsBeyondStay() {
        Millrace m = Shop.working(1);
        m.make(1, 1, 0);
        m.make(1, 1, 0);
        m.make(1, 1, 0);
        Checks.equal("size before", m.setQueue(0, 1), 9);
        Checks.equal("all stay", m.queue(0), 3);
        m.run(1);
        Checks.equal("one has begun", m.queue(0), 2);
        Checks.noState("two are still too many", m, () -> m.make(1, 1, 0));
    }
}
