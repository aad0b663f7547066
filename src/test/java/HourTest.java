/** Promises 20 and 21, and what an hour does: what comes, is worked, goes on, and is taken. */
final class HourTest {
    public static void main(String[] args) {
        standLetsTimePass();
        runDoesHours();
        runRefuses();
        batchesComeWhenThereIsRoom();
        anHourCostsWearsAndLeadsOn();
        aRouteHasUpToFourOperations();
        aFullQueueBlocks();
        aFullStoreBlocks();
        whatLeavesMakesRoomForTheNextMachine();
        theGreatestPriorityIsTaken();
        whatCannotBeginIsPassedOver();
        machinesTakeByRisingNumbers();
        aMachineTakesOnlyItsClasses();
        onlyTheFirstOperationTakesParts();
        aLineTakesOneKindAlone();
        linesTakeOneAfterTheOther();
        partsAreTakenByRisingBatches();
        Checks.end("HourTest");
    }

    private static void standLetsTimePass() {
        Millrace m = Shop.working(2);
        m.make(1, 1, 0);
        m.run(2);
        Checks.isTrue("it did not stand", !m.stand(true));
        Checks.isTrue("it stood", m.stand(true));
        m.buy(0, 1);
        Checks.equal("hours pass", m.run(10), 12);
        Checks.equal("nothing is worked", m.machine(0, 1), 1);
        Checks.equal("nothing comes", m.batch(1, 3), 0);
        Checks.isTrue("it stood", m.stand(false));
        Checks.isTrue("it did not stand", !m.stand(false));
        m.run(1);
        Checks.equal("work goes on", m.batch(0, 3), 3);
        Checks.equal("what was to come comes", m.batch(1, 3), 3);
        Checks.equal("in this hour", m.batch(1, 9), 12);
    }

    private static void runDoesHours() {
        Millrace m = new Millrace();
        Checks.equal("the hour then", m.run(1), 1);
        Checks.equal("the hour then", m.run(50), 51);
        Checks.equal("the hour", m.hour(), 51);
        for (int i = 0; i < 38; i++) {
            m.run(50);
        }
        Checks.equal("the hour", m.hour(), 1951);
        Checks.noState("2001 is above 2000", m, () -> m.run(50));
        Checks.equal("2000 is not", m.run(49), 2000);
        Checks.noState("2001 is above 2000", m, () -> m.run(1));
        Checks.noArgument("2051, and 51 hours", m, () -> m.run(51));
        m.stand(true);
        Checks.noState("2001, standing still", m, () -> m.run(1));
    }

    private static void runRefuses() {
        Millrace m = Shop.working(1);
        m.make(1, 1, 0);
        Checks.noArgument("hours 0", m, () -> m.run(0));
        Checks.noArgument("hours -1", m, () -> m.run(-1));
        Checks.noArgument("hours 51", m, () -> m.run(51));
        Checks.noArgument("very many hours", m, () -> m.run(Integer.MAX_VALUE));
    }

    private static void batchesComeWhenThereIsRoom() {
        Millrace m = new Millrace();
        m.setBought(0, 1, 1);
        m.setBought(1, 1, 0);
        m.setStore(0, 10);
        m.buy(0, 6);
        m.buy(0, 5);
        m.buy(0, 4);
        m.buy(1, 20);
        m.run(1);
        Checks.equal("not yet", m.store(0, 0), 0);
        Checks.equal("at once, into another store", m.store(1, 0), 20);
        m.run(1);
        int[] due = {3, 0, 3};
        for (int batch = 0; batch < 3; batch++) {
            Checks.equal("6 come, 5 have no room, 4 come: " + batch, m.batch(batch, 3), due[batch]);
        }
        m.run(3);
        m.order(0, 6, 0);
        m.promise(0);
        m.ship(0);
        m.run(1);
        Checks.equal("there is room then", m.batch(1, 3), 3);
        Checks.equal("it came in the hour 5", m.batch(1, 9), 5);
        Checks.equal("the other came in the hour 1", m.batch(2, 9), 1);
    }

    private static void anHourCostsWearsAndLeadsOn() {
        Millrace m = new Millrace();
        m.addOperation(0, 0, 1, 2);
        m.addOperation(0, 1, 2, 1);
        m.addMachine(1, 1, 3, 50, 1, -1);
        m.addMachine(2, 0, 5, 50, 1, -1);
        m.addPerson(2, 0, 24);
        m.setLevel(0, 1, 1);
        m.addPerson(4, 0, 24);
        m.setLevel(1, 2, 1);
        m.make(0, 2, 0);
        m.run(1);
        Checks.equal("2 hours and 1 for setting up", m.machine(0, 1), 3);
        Checks.equal("nothing is worked yet", m.ledger(1), 0);
        m.run(1);
        Checks.equal("2 are left", m.machine(0, 1), 2);
        Checks.equal("wear", m.machine(0, 3), 1);
        Checks.equal("it cost 3 and 2, for an hour of setting up, too", m.batch(0, 2), 5);
        m.run(2);
        Checks.equal("the second machine has it in the same hour", m.machine(1, 0), 0);
        Checks.equal("the operation that is done", m.batch(0, 4), 1);
        Checks.equal("the first machine is free", m.machine(0, 0), -1);
        Checks.equal("its person, too", m.machineOf(0), -1);
        Checks.equal("3 hours", m.batch(0, 2), 15);
        m.run(1);
        Checks.equal("in store", m.batch(0, 3), 3);
        Checks.equal("done with both", m.batch(0, 4), 2);
        Checks.equal("and an hour of the other two", m.batch(0, 2), 24);
        Checks.equal("worked", m.ledger(1), 24);
        Checks.equal("pieces", m.store(0, 0), 2);
    }

    private static void aRouteHasUpToFourOperations() {
        Millrace m = new Millrace();
        for (int work = 0; work < 4; work++) {
            m.addOperation(0, work, work, 1);
        }
        Shop.addMachine(m, 15);
        Shop.addPerson(m, 1);
        m.make(0, 1, 0);
        for (int operation = 0; operation < 4; operation++) {
            m.run(1);
            Checks.equal("the operation that is done", m.batch(0, 4), operation);
        }
        m.run(1);
        Checks.equal("done with all", m.batch(0, 4), 4);
        Checks.equal("in store", m.batch(0, 3), 3);
        Checks.equal("it does not wait", m.why(0, 0), 1);
    }

    private static void aFullQueueBlocks() {
        Millrace m = new Millrace();
        m.addOperation(0, 0, 0, 1);
        m.addOperation(0, 1, 0, 1);
        Shop.addMachine(m, 1);
        Shop.addPerson(m, 1);
        m.setQueue(1, 1);
        m.make(0, 1, 0);
        m.make(0, 1, 0);
        m.make(0, 1, 0);
        m.run(3);
        Checks.equal("the first waits for the second operation", m.batch(0, 3), 1);
        Checks.equal("the second has no room", m.batch(1, 3), 2);
        Checks.equal("its operation is told", m.batch(1, 4), 0);
        Checks.equal("no hours are left", m.machine(0, 1), 0);
        m.run(5);
        Checks.equal("it stays", m.machine(0, 0), 1);
        Checks.equal("its person stays", m.machineOf(0), 0);
        Checks.equal("no more is worked", m.machine(0, 3), 2);
        Checks.equal("the third does not begin", m.batch(2, 3), 1);
        m.setQueue(1, 2);
        m.run(1);
        Checks.equal("it leaves", m.batch(1, 4), 1);
        Checks.equal("the third begins in the same hour", m.machine(0, 0), 2);
    }

    private static void aFullStoreBlocks() {
        Millrace m = Shop.working(1);
        m.setStore(1, 5);
        m.make(1, 3, 0);
        m.make(1, 3, 0);
        m.make(1, 2, 0);
        m.run(3);
        Checks.equal("the first is in store", m.store(1, 0), 3);
        Checks.equal("the second has no room for all", m.batch(1, 3), 2);
        m.run(4);
        Checks.equal("it stays", m.machine(0, 0), 1);
        m.setStore(1, 6);
        m.run(1);
        Checks.equal("it has room for just all", m.store(1, 0), 6);
    }

    /** Machine 1 empties the queue only behind machine 0 in the same hour: so machine 0 waits an hour more. */
    private static void whatLeavesMakesRoomForTheNextMachine() {
        Millrace m = new Millrace();
        m.addOperation(0, 0, 0, 1);
        m.addOperation(0, 1, 0, 2);
        Shop.addMachine(m, 1);
        Shop.addMachine(m, 2);
        Shop.addPerson(m, 1);
        Shop.addPerson(m, 1);
        m.setQueue(1, 1);
        for (int i = 0; i < 4; i++) {
            m.make(0, 1, 0);
        }
        m.run(4);
        Checks.equal("batch 0 is done in the hour 3", m.batch(0, 3), 3);
        Checks.equal("batch 1 is taken behind it", m.machine(1, 0), 1);
        Checks.equal("batch 2 asked for room ahead of that", m.machine(0, 0), 2);
        m.run(1);
        Checks.equal("and gets it an hour later", m.batch(2, 3), 1);
        Checks.equal("batch 3 follows", m.machine(0, 0), 3);
    }

    private static void theGreatestPriorityIsTaken() {
        Millrace m = Shop.working(1);
        m.make(1, 1, 2);
        m.make(1, 1, 7);
        m.make(1, 1, 9);
        m.make(1, 1, 7);
        m.rank(2, 9, true);
        int[] due = {1, 3, 0};
        for (int i = 0; i < due.length; i++) {
            m.run(1);
            Checks.equal("taken in the hour " + i, m.machine(0, 0), due[i]);
        }
        m.run(3);
        Checks.equal("a frozen one is not", m.batch(2, 3), 1);
    }

    private static void whatCannotBeginIsPassedOver() {
        Millrace m = Shop.withMade(1);
        m.addLine(2, 0, 1, -1);
        m.addOperation(2, 0, 0, 1);
        m.addOperation(3, 0, 1, 1);
        Shop.addMachine(m, 1);
        m.addPerson(0, 0, 24);
        m.setLevel(0, 0, 1);
        m.make(3, 1, 9);
        m.make(2, 1, 8);
        m.make(1, 1, 7);
        m.run(1);
        Checks.equal("one lacks a person, one lacks a part", m.machine(0, 0), 2);
        m.buy(0, 1);
        m.run(1);
        Checks.equal("the part is there", m.machine(0, 0), 1);
        m.setLevel(0, 1, 1);
        m.run(1);
        Checks.equal("the person, too", m.machine(0, 0), 0);
    }

    private static void machinesTakeByRisingNumbers() {
        Millrace m = Shop.withMade(1);
        Shop.addMachine(m, 1);
        Shop.addMachine(m, 1);
        Shop.addPerson(m, 1);
        Shop.addPerson(m, 2);
        m.make(1, 1, 0);
        m.make(1, 1, 1);
        m.run(1);
        Checks.equal("the first takes the greatest priority", m.machine(0, 0), 1);
        Checks.equal("and the best person", m.machine(0, 2), 1);
        Checks.equal("the second takes what is left", m.machine(1, 0), 0);
        Checks.equal("and who is left", m.machine(1, 2), 0);
    }

    private static void aMachineTakesOnlyItsClasses() {
        for (int classes = 1; classes <= 15; classes++) {
            Millrace m = new Millrace();
            Shop.addMachine(m, classes);
            Shop.addPerson(m, 1);
            int first = -1;
            for (int work = 0; work < 4; work++) {
                m.addOperation(work, work, 0, 1);
                m.make(work, 1, 0);
                first = first < 0 && (classes & 1 << work) != 0 ? work : first;
            }
            m.run(1);
            Checks.equal("taken by one that does the classes " + classes, m.machine(0, 0), first);
        }
    }

    private static void onlyTheFirstOperationTakesParts() {
        Millrace m = Shop.withBought();
        m.addLine(1, 0, 3, -1);
        m.addOperation(1, 0, 0, 1);
        m.addOperation(1, 0, 0, 1);
        Shop.addMachine(m, 1);
        Shop.addPerson(m, 1);
        Shop.stocked(m, 0, 20);
        m.make(1, 2, 0);
        m.run(1);
        Checks.equal("3 for each of 2 pieces", m.store(0, 0), 14);
        Checks.equal("their cost", m.batch(1, 2), 60);
        m.run(2);
        Checks.equal("none for the second operation", m.store(0, 0), 14);
        Checks.equal("it is done", m.batch(1, 3), 3);
        m.make(1, 5, 0);
        m.run(1);
        Checks.equal("14 are not enough for 15", m.batch(2, 3), 1);
    }

    private static void aLineTakesOneKindAlone() {
        Millrace m = new Millrace();
        m.setBought(0, 1, 0);
        m.setBought(1, 5, 0);
        m.addLine(2, 1, 2, 0);
        m.addOperation(2, 0, 0, 1);
        Shop.addMachine(m, 1);
        Shop.addPerson(m, 1);
        m.buy(0, 3);
        m.buy(1, 3);
        m.make(2, 2, 0);
        m.run(1);
        Checks.equal("3 and 3 do not make 4", m.batch(2, 3), 1);
        m.buy(0, 1);
        m.run(1);
        Checks.equal("4 stand in", m.batch(2, 3), 2);
        Checks.equal("none is left of these", m.store(0, 0), 0);
        Checks.equal("all are left of the line's kind", m.store(1, 0), 3);
        Checks.equal("two parents", m.batch(2, 8), 2);
        Checks.equal("the lower one", m.parent(2, 0), 0);
        Checks.equal("the higher one", m.parent(2, 1), 3);
        Checks.equal("they cost 1 each", m.batch(2, 2), 4);
        m.buy(0, 2);
        m.make(2, 1, 0);
        m.run(1);
        Checks.equal("the line's kind comes first", m.store(1, 0), 1);
        Checks.equal("it costs 5 each", m.batch(5, 2), 10);
        Checks.equal("the other one is not taken", m.store(0, 0), 2);
    }

    private static void linesTakeOneAfterTheOther() {
        Millrace m = new Millrace();
        m.setBought(0, 1, 0);
        m.setBought(1, 5, 0);
        m.addLine(2, 0, 2, -1);
        m.addLine(2, 0, 1, 1);
        m.addOperation(2, 0, 0, 1);
        Shop.addMachine(m, 1);
        Shop.addPerson(m, 1);
        m.buy(0, 5);
        m.make(2, 2, 0);
        m.run(1);
        Checks.equal("4 of 5 are taken by the first line, 1 is not enough for the second", m.batch(1, 3), 1);
        Checks.equal("and nothing is taken then", m.store(0, 0), 5);
        Checks.equal("parts are lacking", m.why(1, 0), 6);
        m.buy(1, 2);
        m.run(1);
        Checks.equal("others stand in for the second line", m.store(1, 0), 0);
        Checks.equal("1 is left", m.store(0, 0), 1);
        Checks.equal("the cost", m.batch(1, 2), 14);
        Millrace both = new Millrace();
        both.setBought(0, 1, 0);
        both.setBought(1, 5, 0);
        both.addLine(2, 0, 2, 1);
        both.addLine(2, 1, 1, -1);
        both.addOperation(2, 0, 0, 1);
        Shop.addMachine(both, 1);
        Shop.addPerson(both, 1);
        both.buy(0, 1);
        both.buy(1, 2);
        both.make(2, 1, 0);
        both.run(2);
        Checks.equal("what stands in for the first line lacks for the second", both.batch(2, 3), 1);
        both.buy(0, 1);
        both.run(1);
        Checks.equal("the line's kind is there", both.batch(2, 3), 2);
        Checks.equal("the cost", both.batch(2, 2), 7);
    }

    /** Takes 2 of 3 pieces and then 2 of 4; a batch that shares its cost keeps what rounding leaves. */
    private static void partsAreTakenByRisingBatches() {
        Millrace m = new Millrace();
        m.addOperation(0, 0, 0, 1);
        m.addLine(1, 0, 1, -1);
        m.addOperation(1, 0, 0, 1);
        m.addMachine(1, 0, 7, 50, 1, -1);
        Shop.addPerson(m, 1);
        m.make(0, 3, 0);
        m.make(0, 4, 0);
        m.run(3);
        m.make(1, 2, 0);
        m.run(1);
        Checks.equal("2 of 3 pieces of 7", m.batch(2, 2), 4);
        Checks.equal("what is left keeps 3", m.batch(0, 2), 3);
        m.run(1);
        m.make(1, 3, 0);
        m.run(1);
        Checks.equal("the last piece of 3, and 2 of 4 pieces of 7", m.batch(3, 2), 6);
        Checks.equal("its first parent", m.parent(3, 0), 0);
        Checks.equal("its second parent", m.parent(3, 1), 1);
        Checks.equal("the first is gone", m.batch(0, 3), 4);
        Checks.equal("the second keeps 2 pieces", m.batch(1, 1), 2);
        Checks.equal("and a cost of 4", m.batch(1, 2), 4);
    }
}
