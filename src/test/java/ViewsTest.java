/** Promises 22 to 37: what is told of all that there is. */
final class ViewsTest {
    public static void main(String[] args) {
        hourAndBatchesCount();
        batchRefuses();
        parentsComeByRisingNumbers();
        originsGoDownToWhatWasBought();
        machineTells();
        levelAndMachineOfRefuse();
        storeTells();
        queueCountsWhatWaits();
        queuedGoesByPriorities();
        toldTellsOfAnOrder();
        whyNamesTheFirstReason();
        latestGoesBackward();
        earliestGoesForward();
        plansNeedAllKinds();
        deepPlansEnd();
        ledgerTells();
        Checks.end("ViewsTest");
    }

    private static void hourAndBatchesCount() {
        Millrace m = Shop.withMade(1);
        m.run(7);
        Checks.equal("hour", m.hour(), 7);
        m.buy(0, 1);
        m.make(1, 4, 0);
        m.split(1, 2);
        m.join(1, 2);
        m.recall(0);
        Checks.equal("batches, gone and scrapped ones, too", m.batches(), 4);
    }

    private static void batchRefuses() {
        Millrace m = Shop.withBought();
        m.buy(0, 1);
        Checks.noIndex("batch 1", m, () -> m.batch(1, 10));
        Checks.noIndex("batch -1", m, () -> m.batch(-1, 0));
        Checks.noArgument("what 10", m, () -> m.batch(0, 10));
        Checks.noArgument("what -1", m, () -> m.batch(0, -1));
    }

    private static void parentsComeByRisingNumbers() {
        Millrace m = Shop.working(1);
        m.addLine(2, 0, 1, -1);
        m.addOperation(2, 0, 0, 1);
        m.make(2, 4, 0);
        for (int i = 0; i < 4; i++) {
            m.buy(0, 1);
        }
        m.run(1);
        for (int place = 0; place < 4; place++) {
            Checks.equal("parent " + place, m.parent(0, place), place + 1);
        }
        Checks.equal("no fifth one", m.parent(0, 4), -1);
        Checks.equal("nor any behind", m.parent(0, Integer.MAX_VALUE), -1);
        Checks.equal("a bought one has none", m.parent(1, 0), -1);
        Checks.noIndex("batch 5", m, () -> m.parent(5, -1));
        Checks.noIndex("batch -1", m, () -> m.parent(-1, 0));
        Checks.noArgument("place -1", m, () -> m.parent(0, -1));
    }

    private static void originsGoDownToWhatWasBought() {
        Millrace m = Shop.withBought();
        m.addLine(1, 0, 1, -1);
        m.addOperation(1, 0, 0, 1);
        m.addLine(2, 1, 1, -1);
        m.addLine(2, 0, 1, -1);
        m.addOperation(2, 0, 0, 1);
        Shop.addMachine(m, 1);
        Shop.addPerson(m, 3);
        m.make(2, 2, 0);
        m.buy(0, 1);
        m.make(1, 2, 0);
        m.buy(0, 2);
        m.run(2);
        m.buy(0, 3);
        m.buy(0, 1);
        m.run(2);
        m.order(2, 2, 0);
        m.promise(0);
        m.ship(0);
        Checks.equal("shipped", m.batch(6, 3), 6);
        int[] due = {1, 3, 4, -1, -1};
        for (int place = 0; place < due.length; place++) {
            Checks.equal("origin of the shipped batch, " + place, m.origin(6, place), due[place]);
            Checks.equal("of what it was made of, " + place, m.origin(0, place), due[place]);
        }
        Checks.equal("of the part in between", m.origin(2, 0), 1);
        Checks.equal("of the part in between", m.origin(2, 1), 3);
        Checks.equal("no more of that", m.origin(2, 2), -1);
        Checks.equal("a bought one is its own", m.origin(5, 0), 5);
        Checks.equal("and that is all", m.origin(5, 1), -1);
        Checks.noIndex("batch 7", m, () -> m.origin(7, -1));
        Checks.noIndex("batch -1", m, () -> m.origin(-1, 0));
        Checks.noArgument("place -1", m, () -> m.origin(0, -1));
        Millrace bought = Shop.withBought();
        Shop.stocked(bought, 0, 2);
        bought.order(0, 1, 0);
        bought.promise(0);
        bought.ship(0);
        Checks.equal("a shipped one of a bought kind stems from the bought one", bought.origin(1, 0), 0);
        Checks.equal("and is none itself", bought.origin(1, 1), -1);
        Millrace none = Shop.working(1);
        none.make(1, 1, 0);
        Checks.equal("made of nothing", none.origin(0, 0), -1);
    }

    private static void machineTells() {
        Millrace m = Shop.withMade(5);
        m.addMachine(1, 2, 0, 50, 1, -1);
        m.addPerson(0, 0, 24);
        Shop.addPerson(m, 1);
        m.make(1, 1, 0);
        m.run(3);
        int[] due = {0, 5, 1, 2, 1, 0};
        for (int what = 0; what <= 5; what++) {
            Checks.equal("machine, " + what, m.machine(0, what), due[what]);
        }
        Checks.equal("the person is there", m.machineOf(1), 0);
        Checks.equal("the other one is not", m.machineOf(0), -1);
        Checks.noIndex("machine 1", m, () -> m.machine(1, 6));
        Checks.noIndex("machine -1", m, () -> m.machine(-1, 0));
        Checks.noArgument("what 6", m, () -> m.machine(0, 6));
        Checks.noArgument("what -1", m, () -> m.machine(0, -1));
    }

    private static void levelAndMachineOfRefuse() {
        Millrace m = new Millrace();
        Shop.addPerson(m, 2);
        Checks.equal("level", m.level(0, 3), 2);
        Checks.noIndex("person 1", m, () -> m.level(1, 0));
        Checks.noIndex("person -1", m, () -> m.level(-1, 0));
        Checks.noIndex("skill 4", m, () -> m.level(0, 4));
        Checks.noIndex("skill -1", m, () -> m.level(0, -1));
        Checks.noIndex("person 1", m, () -> m.machineOf(1));
        Checks.noIndex("person -1", m, () -> m.machineOf(-1));
    }

    private static void storeTells() {
        Millrace m = Shop.withBought();
        Shop.stocked(m, 0, 5);
        Shop.stocked(m, 0, 2);
        m.order(0, 4, 0);
        m.promise(0);
        Checks.equal("pieces", m.store(0, 0), 7);
        Checks.equal("promised", m.store(0, 1), 4);
        Checks.equal("another kind", m.store(1, 0), 0);
        Checks.noIndex("kind 12", m, () -> m.store(12, 2));
        Checks.noIndex("kind -1", m, () -> m.store(-1, 0));
        Checks.noArgument("what 2", m, () -> m.store(0, 2));
        Checks.noArgument("what -1", m, () -> m.store(0, -1));
    }

    private static void queueCountsWhatWaits() {
        Millrace m = Shop.working(1);
        m.addOperation(1, 3, 0, 9);
        m.make(1, 1, 9);
        m.make(1, 1, 0);
        m.make(1, 1, 0);
        m.rank(2, 0, true);
        Checks.equal("three wait, one of them frozen", m.queue(0), 3);
        m.run(2);
        Checks.equal("one has gone on", m.queue(0), 2);
        Checks.equal("to the other class, and on the machine", m.queue(3), 0);
        Checks.noIndex("class 4", m, () -> m.queue(4));
        Checks.noIndex("class -1", m, () -> m.queue(-1));
    }

    private static void queuedGoesByPriorities() {
        Millrace m = Shop.withMade(1);
        m.addOperation(2, 0, 0, 1);
        m.addOperation(3, 1, 0, 1);
        m.make(1, 1, 0);
        m.make(2, 1, 5);
        m.make(3, 1, 9);
        m.make(1, 1, 9);
        m.make(1, 1, 5);
        m.rank(4, 5, true);
        int[] due = {3, 1, 4, 0, -1, -1};
        for (int place = 0; place < due.length; place++) {
            Checks.equal("class 0, place " + place, m.queued(0, place), due[place]);
        }
        Checks.equal("class 1", m.queued(1, 0), 2);
        Checks.equal("class 2", m.queued(2, 0), -1);
        Checks.equal("far behind", m.queued(0, Integer.MAX_VALUE), -1);
        Checks.noIndex("class 4", m, () -> m.queued(4, -1));
        Checks.noIndex("class -1", m, () -> m.queued(-1, 0));
        Checks.noArgument("place -1", m, () -> m.queued(0, -1));
    }

    private static void toldTellsOfAnOrder() {
        Millrace m = Shop.withBought();
        m.order(0, 2, 3);
        m.run(3);
        Checks.equal("not late in the due hour", m.told(0, 5), 0);
        m.run(1);
        Checks.equal("late behind it", m.told(0, 5), 1);
        Shop.stocked(m, 0, 1);
        m.promise(0);
        int[] due = {0, 2, 3, 1, -1, 2};
        for (int what = 0; what <= 5; what++) {
            Checks.equal("order, " + what, m.told(0, what), due[what]);
        }
        m.order(0, 1, 100);
        Shop.stocked(m, 0, 5);
        m.promise(1);
        m.ship(1);
        m.run(50);
        m.run(50);
        Checks.equal("shipped in time", m.told(1, 5), 0);
        Checks.equal("its batch", m.told(1, 4), 2);
        Checks.noIndex("order 2", m, () -> m.told(2, 6));
        Checks.noIndex("order -1", m, () -> m.told(-1, 0));
        Checks.noArgument("what 6", m, () -> m.told(0, 6));
        Checks.noArgument("what -1", m, () -> m.told(0, -1));
    }

    private static void whyNamesTheFirstReason() {
        Millrace m = Shop.withBought();
        m.addLine(1, 0, 1, -1);
        m.addOperation(1, 0, 0, 1);
        m.addOperation(1, 1, 0, 1);
        m.addMachine(1, 0, 0, 1, 2, 11);
        Shop.addMachine(m, 2);
        m.addPerson(0, 0, 12);
        m.make(1, 1, 0);
        m.buy(0, 1);
        Checks.equal("no level", m.why(0, 0), 5);
        Checks.equal("another class, and no level", m.why(0, 1), 3);
        m.rank(0, 0, true);
        Checks.equal("frozen, and another class", m.why(0, 1), 2);
        Checks.equal("coming", m.why(1, 0), 1);
        m.rank(0, 0, false);
        m.setLevel(0, 0, 1);
        Checks.equal("no part", m.why(0, 0), 6);
        m.rank(0, 0, true);
        m.run(1);
        m.rank(0, 0, false);
        Checks.equal("it can", m.why(0, 0), 0);
        Checks.equal("in store", m.why(1, 0), 1);
        m.run(1);
        Checks.equal("on the machine", m.why(0, 0), 1);
        m.make(1, 1, 0);
        Checks.equal("not free, and the person has work", m.why(2, 0), 4);
        Checks.equal("gone", m.why(1, 0), 1);
        m.run(1);
        Checks.equal("needs a repair", m.why(2, 0), 4);
        Checks.equal("the part that is lacking for it", m.machine(0, 5), 1);
        Shop.addMachine(m, 1);
        Checks.equal("the person has work", m.why(2, 2), 5);
        m.run(9);
        Checks.equal("the hour 12 is behind the shift", m.why(2, 2), 5);
        m.run(12);
        Checks.equal("the hour 24 is in it, no parts", m.why(2, 2), 6);
        Checks.noIndex("batch 3", m, () -> m.why(3, 0));
        Checks.noIndex("batch -1", m, () -> m.why(-1, 0));
        Checks.noIndex("machine 3", m, () -> m.why(0, 3));
        Checks.noIndex("machine -1", m, () -> m.why(0, -1));
    }

    /** Kinds 0 and 1 bought (4 and 9 hours), 2 made of 0 (2 + 3 hours), 3 of 2 and 1 (6 hours), 4 of nothing (7). */
    private static Millrace planned() {
        Millrace m = new Millrace();
        m.setBought(0, 1, 4);
        m.setBought(1, 1, 9);
        m.addLine(2, 0, 3, -1);
        m.addOperation(2, 0, 0, 2);
        m.addOperation(2, 1, 1, 3);
        m.addLine(3, 2, 1, 1);
        m.addLine(3, 1, 1, 0);
        m.addOperation(3, 0, 0, 6);
        m.addOperation(4, 0, 0, 7);
        return m;
    }

    private static void latestGoesBackward() {
        Millrace m = planned();
        Checks.equal("bought", m.latest(0, 100), 96);
        Checks.equal("made of one", m.latest(2, 100), 91);
        Checks.equal("the least of two: 9 hours both", m.latest(3, 100), 85);
        Checks.equal("made of nothing", m.latest(4, 100), 93);
        Checks.equal("below 0", m.latest(3, 0), -15);
        Checks.equal("the last due hour", m.latest(4, 999), 992);
        m.setBought(1, 1, 10);
        Checks.equal("the other is less", m.latest(3, 100), 84);
        m.setBought(1, 1, 0);
        Checks.equal("the one is less", m.latest(3, 100), 85);
        m.run(5);
        m.stand(true);
        Checks.equal("the hour does not matter", m.latest(3, 100), 85);
        Checks.noIndex("kind 12", m, () -> m.latest(12, -1));
        Checks.noIndex("kind -1", m, () -> m.latest(-1, 0));
        Checks.noArgument("due -1", m, () -> m.latest(0, -1));
        Checks.noArgument("due 1000", m, () -> m.latest(0, 1000));
        Checks.noArgument("due 1000 for nothing", m, () -> m.latest(9, 1000));
    }

    private static void earliestGoesForward() {
        Millrace m = planned();
        Checks.equal("bought", m.earliest(0), 4);
        Checks.equal("made of one", m.earliest(2), 9);
        Checks.equal("the greatest of two", m.earliest(3), 15);
        Checks.equal("made of nothing", m.earliest(4), 7);
        m.setBought(1, 1, 30);
        m.run(11);
        Checks.equal("from now on", m.earliest(3), 47);
        m.setBought(1, 1, 0);
        m.buy(1, 9);
        m.run(1);
        Checks.equal("as if there were nothing", m.earliest(3), 27);
        Checks.noIndex("kind 12", m, () -> m.earliest(12));
        Checks.noIndex("kind -1", m, () -> m.earliest(-1));
    }

    private static void plansNeedAllKinds() {
        Millrace m = new Millrace();
        m.setBought(0, 1, 1);
        m.addLine(2, 0, 1, 1);
        m.addOperation(2, 0, 0, 1);
        Checks.equal("what stands in may be nothing", m.latest(2, 9), 7);
        Checks.equal("what stands in may be nothing", m.earliest(2), 2);
        m.addLine(3, 1, 1, 0);
        m.addOperation(3, 0, 0, 1);
        m.addLine(4, 3, 1, -1);
        m.addOperation(4, 0, 0, 1);
        Checks.noState("nothing itself", m, () -> m.latest(1, 9));
        Checks.noState("made of nothing yet", m, () -> m.latest(3, 9));
        Checks.noState("made of what is made of that", m, () -> m.latest(4, 9));
        Checks.noState("nothing itself", m, () -> m.earliest(1));
        Checks.noState("made of nothing yet", m, () -> m.earliest(3));
        Checks.noState("made of what is made of that", m, () -> m.earliest(4));
        m.addLine(5, 0, 1, -1);
        Checks.noState("a bill, but no route", m, () -> m.earliest(5));
        m.setBought(1, 1, 0);
        Checks.equal("it is bought now", m.earliest(4), 2);
    }

    /** 3 lines at each of 11 levels, all of the kind below: a plan that walked down each would take long. */
    private static void deepPlansEnd() {
        Millrace m = new Millrace();
        m.setBought(0, 1, 30);
        for (int kind = 1; kind < 12; kind++) {
            for (int i = 0; i < 3; i++) {
                m.addLine(kind, kind - 1, 1, -1);
            }
            for (int i = 0; i < 4; i++) {
                m.addOperation(kind, 0, 0, 9);
            }
        }
        Checks.equal("12 levels forward", m.earliest(11), 426);
        Checks.equal("12 levels backward", m.latest(11, 0), -426);
    }

    private static void ledgerTells() {
        Millrace m = new Millrace();
        m.setBought(0, 10, 3);
        m.addLine(1, 0, 1, -1);
        m.addOperation(1, 0, 0, 3);
        m.addMachine(1, 0, 4, 50, 1, -1);
        m.addPerson(5, 0, 24);
        m.setLevel(0, 0, 1);
        m.buy(0, 6);
        Checks.equal("bought when it was ordered", m.ledger(0), 60);
        Checks.equal("in the factory while it comes", m.ledger(2), 60);
        m.make(1, 2, 0);
        m.make(1, 2, 0);
        m.run(5);
        Checks.equal("one hour was worked", m.ledger(1), 9);
        Checks.equal("in store and on the machine", m.ledger(2), 69);
        m.run(2);
        Checks.equal("three hours were worked", m.ledger(1), 27);
        m.order(1, 1, 0);
        m.promise(0);
        m.ship(0);
        Checks.equal("half of what the batch cost", m.ledger(4), 23);
        m.recall(2);
        Checks.equal("scrapped with its parts", m.ledger(3), 20);
        Checks.equal("the rest", m.ledger(2), 44);
        Checks.equal("no repair took anything", m.ledger(5), 0);
        Checks.noArgument("what 6", m, () -> m.ledger(6));
        Checks.noArgument("what -1", m, () -> m.ledger(-1));
    }
}
