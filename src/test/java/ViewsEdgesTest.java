/** The sentences about what is told that name a boundary case: promises 22 to 34 and 37. */
final class ViewsEdgesTest {
    private static final int FAR = Integer.MAX_VALUE;

    public static void main(String[] args) {
        hoursAndBatchesAreCountedFromNothing();
        aParentAtEachPlace();
        anOriginAtEachPlace();
        anOriginIsToldOnce();
        originsAndFamiliesGoAllTheWay();
        theLastNumbersAreTold();
        aBatchInEachPlaceOfAQueue();
        queuesOfAllClasses();
        theOperationThatIsTold();
        theHourThatIsTold();
        aMachineFromFreeToFree();
        theFirstReasonIsTold();
        aReasonForEachMachine();
        theLedgerAtEachStep();
        nothingChangesByLooking();
        Checks.end("ViewsEdgesTest");
    }

    private static void hoursAndBatchesAreCountedFromNothing() {
        Millrace m = Shop.withBought();
        Checks.equal("hour at first", m.hour(), 0);
        Checks.equal("batches at first", m.batches(), 0);
        m.run(1);
        Checks.equal("hour", m.hour(), 1);
        m.stand(true);
        m.run(50);
        Checks.equal("hour, standing still", m.hour(), 51);
        for (int i = 1; i <= 60; i++) {
            m.buy(0, 1);
            Checks.equal("batches", m.batches(), i);
        }
        Checks.noState("the next one", m, () -> m.buy(0, 1));
        Checks.equal("those that are scrapped are still counted", m.recall(59) + m.batches(), 61);
    }

    /** "place: 0 for the lowest one"; "-1 if there are not so many": of none, of 1, and of 20 parents. */
    private static void aParentAtEachPlace() {
        int[] parents = {1, 2, 9, 20};
        for (int many : parents) {
            Millrace m = Shop.withBought();
            m.addLine(1, 0, 1, -1);
            m.addOperation(1, 0, 0, 1);
            Shop.addMachine(m, 1);
            Shop.addPerson(m, 1);
            m.make(1, many, 0);
            for (int i = 0; i < many; i++) {
                m.buy(0, 1);
            }
            Checks.equal("none yet", m.parent(0, 0), -1);
            m.run(1);
            Checks.equal("parents", m.batch(0, 8), many);
            for (int place = 0; place < many; place++) {
                Checks.equal("the parent " + place, m.parent(0, place), place + 1);
            }
            for (int place : new int[] {many, many + 1, 60, 63, 64, FAR}) {
                Checks.equal("no parent at " + place + " of " + many, m.parent(0, place), -1);
                Checks.equal("no origin either", m.origin(0, place), -1);
            }
            Checks.equal("a bought one has none", m.parent(many, 0), -1);
        }
    }

    /** "of which a batch is made, by parents, their parents, and so on; itself, if it is bought". */
    private static void anOriginAtEachPlace() {
        Millrace m = new Millrace();
        m.setBought(0, 1, 0);
        for (int kind = 1; kind < 5; kind++) {
            m.addLine(kind, kind - 1, 1, -1);
            m.addOperation(kind, 0, 0, 1);
        }
        Shop.addMachine(m, 1);
        Shop.addPerson(m, 3);
        for (int kind = 4; kind > 0; kind--) {
            m.make(kind, 2, 0);
        }
        m.buy(0, 1);
        m.buy(0, 1);
        Checks.equal("of nothing yet", m.origin(0, 0), -1);
        m.run(5);
        for (int batch = 0; batch < 4; batch++) {
            Checks.equal("the first of the batch " + batch, m.origin(batch, 0), 4);
            Checks.equal("the second of the batch " + batch, m.origin(batch, 1), 5);
            Checks.equal("no third of the batch " + batch, m.origin(batch, 2), -1);
        }
        for (int batch = 4; batch < 6; batch++) {
            Checks.equal("itself", m.origin(batch, 0), batch);
            Checks.equal("and that is all", m.origin(batch, 1), -1);
        }
        Checks.equal("what was used up", m.batch(4, 3), 4);
        Millrace left = Shop.working(1);
        left.addLine(2, 0, 1, -1);
        left.addOperation(2, 0, 0, 1);
        left.buy(0, 3);
        left.make(2, 1, 0);
        left.run(2);
        left.recall(0);
        Checks.equal("what was scrapped", left.batch(0, 3), 5);
        Checks.equal("is an origin all the same", left.origin(1, 0), 0);
        Checks.equal("and its own", left.origin(0, 0), 0);
        Checks.equal("and a parent", left.parent(1, 0), 0);
    }

    /** What comes in by several lines, and by parents that have the same parent, is told once. */
    private static void anOriginIsToldOnce() {
        Millrace m = Shop.withBought();
        m.addLine(1, 0, 1, -1);
        m.addLine(1, 0, 2, -1);
        m.addOperation(1, 0, 0, 1);
        Shop.addMachine(m, 1);
        Shop.addPerson(m, 1);
        m.buy(0, 6);
        m.make(1, 2, 0);
        m.run(2);
        Checks.equal("one parent by two lines", m.batch(1, 8), 1);
        Checks.equal("no second one", m.parent(1, 1), -1);
        m.make(1, 4, 0);
        m.split(2, 1);
        m.split(2, 1);
        m.join(3, 4);
        m.join(5, 2);
        m.buy(0, 12);
        m.run(2);
        Checks.equal("made of what was split and joined", m.batch(6, 3), 3);
        Checks.equal("its parents", m.batch(6, 8), 3);
        Checks.equal("its origin", m.origin(6, 0), 7);
        Checks.equal("once", m.origin(6, 1), -1);
    }

    /** "by parents, their parents, and so on": each batch split off the one before; and the recall of the first. */
    private static void originsAndFamiliesGoAllTheWay() {
        Millrace m = Shop.withBought();
        m.addLine(1, 0, 1, -1);
        m.addOperation(1, 0, 0, 1);
        m.addOperation(1, 1, 0, 1);
        m.setQueue(1, 60);
        Shop.addMachine(m, 1);
        Shop.addPerson(m, 1);
        Shop.stocked(m, 0, 20);
        m.make(1, 20, 0);
        m.run(2);
        for (int batch = 1; batch < 20; batch++) {
            m.split(batch, 20 - batch);
        }
        for (int batch = 1; batch <= 20; batch++) {
            Checks.equal("the parent of " + batch, m.parent(batch, 0), batch - 1);
            Checks.equal("the origin of " + batch, m.origin(batch, 0), 0);
            Checks.equal("the only one of " + batch, m.origin(batch, 1), -1);
        }
        Checks.equal("all that stems from the tenth", m.recall(10), 11);
        Checks.equal("all that stems from the bought one, which is gone", m.recall(0), 9);
    }

    /** Batches 57 to 59, of which the last is the others joined, or bought and shipped. */
    private static void theLastNumbersAreTold() {
        Millrace m = Shop.withMade(1);
        Shop.fill(m, 57);
        m.make(1, 1, 0);
        m.make(1, 1, 0);
        m.join(57, 58);
        Checks.equal("the lower parent", m.parent(59, 0), 57);
        Checks.equal("the higher parent", m.parent(59, 1), 58);
        Checks.equal("made of none that was bought", m.origin(59, 0), -1);
        Checks.equal("the last of the queue", m.queued(0, 0), 59);
        Checks.equal("recalled by its parent", m.recall(58), 1);
        Millrace shipped = Shop.withBought();
        Shop.fill(shipped, 57);
        shipped.buy(0, 1);
        Shop.stocked(shipped, 0, 1);
        shipped.order(0, 2, 0);
        shipped.promise(0);
        Checks.equal("shipped", shipped.ship(0), 59);
        for (int place = 0; place < 2; place++) {
            Checks.equal("a parent", shipped.parent(59, place), 57 + place);
            Checks.equal("an origin", shipped.origin(59, place), 57 + place);
        }
        Checks.equal("no third one", shipped.origin(59, 2), -1);
        Checks.equal("one that comes is its own", shipped.origin(56, 0), 56);
        Checks.equal("recalled by its origin", shipped.recall(58), 100);
    }

    /** "by falling priorities, then by rising numbers"; "place: 0 for the first one"; "-1 if there are not so many". */
    private static void aBatchInEachPlaceOfAQueue() {
        Millrace m = Shop.withMade(1);
        m.setQueue(0, 60);
        for (int i = 0; i < 20; i++) {
            m.make(1, 1, i / 2 % 10);
        }
        for (int place = 0; place < 20; place++) {
            int due = 18 - place / 2 * 2 + place % 2;
            Checks.equal("at the place " + place, m.queued(0, place), due);
        }
        for (int place : new int[] {20, 21, 59, 60, FAR}) {
            Checks.equal("none at the place " + place, m.queued(0, place), -1);
        }
        m.rank(0, 9, true);
        Checks.equal("the lowest number of the greatest priority, though frozen", m.queued(0, 0), 0);
        Checks.equal("then the next one", m.queued(0, 1), 18);
        m.rank(18, 0, false);
        Checks.equal("the last one", m.queued(0, 19), 18);
        Checks.equal("the one ahead of it", m.queued(0, 18), 1);
    }

    private static void queuesOfAllClasses() {
        Millrace m = new Millrace();
        for (int work = 0; work < 4; work++) {
            m.addOperation(work, work, 0, 1);
            for (int i = 0; i <= work; i++) {
                m.make(work, 1, 0);
            }
        }
        int first = 0;
        for (int work = 0; work < 4; work++) {
            Checks.equal("wait for the class " + work, m.queue(work), work + 1);
            Checks.equal("the first of the class " + work, m.queued(work, 0), first);
            Checks.equal("the last of the class " + work, m.queued(work, work), first + work);
            Checks.equal("none behind it", m.queued(work, work + 1), -1);
            first += work + 1;
        }
    }

    /** "4 its next operation, or the one that is done, from 0, their number if it was done with all, 0 if bought". */
    private static void theOperationThatIsTold() {
        Millrace m = new Millrace();
        m.setBought(0, 1, 0);
        for (int i = 0; i < 4; i++) {
            m.addOperation(1, i, i, 1);
        }
        for (int work = 0; work < 4; work++) {
            Shop.addMachine(m, 1 << work);
        }
        m.addPerson(0, 0, 24);
        m.make(1, 1, 0);
        m.buy(0, 1);
        for (int operation = 0; operation < 4; operation++) {
            Checks.equal("the next one", m.batch(0, 4), operation);
            Checks.equal("it waits", m.batch(0, 3), 1);
            m.setLevel(0, operation, 1);
            m.run(1);
            Checks.equal("the one that is done", m.batch(0, 4), operation);
            Checks.equal("on a machine", m.batch(0, 3), 2);
            m.run(1);
        }
        Checks.equal("their number", m.batch(0, 4), 4);
        Checks.equal("in store", m.batch(0, 3), 3);
        Checks.equal("of a bought one", m.batch(1, 4), 0);
    }

    /** "9 the hour at which it comes, or came into the store first as one that was bought; -1 for others". */
    private static void theHourThatIsTold() {
        Millrace m = Shop.working(1);
        m.make(1, 2, 0);
        m.split(0, 1);
        m.join(0, 1);
        m.buy(0, 2);
        for (int batch = 0; batch < 3; batch++) {
            Checks.equal("made, split off, joined", m.batch(batch, 9), -1);
        }
        m.run(3);
        Checks.equal("made, and in store", m.batch(2, 9), -1);
        Checks.equal("came in the first hour", m.batch(3, 9), 0);
        m.order(0, 2, 0);
        m.order(1, 2, 0);
        m.promise(0);
        m.promise(1);
        m.ship(0);
        m.ship(1);
        Checks.equal("shipped, of a bought kind", m.batch(4, 9), -1);
        Checks.equal("shipped, of a made kind", m.batch(5, 9), -1);
        Checks.equal("gone, it came when it came", m.batch(3, 9), 0);
        Millrace later = new Millrace();
        later.setBought(0, 1, 2);
        later.run(3);
        later.buy(0, 1);
        later.buy(0, 1);
        later.run(4);
        later.order(0, 1, 0);
        later.promise(0);
        later.ship(0);
        later.recall(1);
        Checks.equal("gone", later.batch(0, 3), 4);
        Checks.equal("the hour at which it came first", later.batch(0, 9), 5);
        Checks.equal("scrapped", later.batch(1, 3), 5);
        Checks.equal("the hour at which it came first", later.batch(1, 9), 5);
    }

    private static void machine(String what, Millrace m, int... due) {
        for (int i = 0; i < due.length; i++) {
            Checks.equal(what + ", " + i, m.machine(0, i), due[i]);
        }
    }

    /** Promise 27: "-1 for none", and 0, 1 or 2 for a repair. */
    private static void aMachineFromFreeToFree() {
        Millrace m = Shop.withMade(2);
        m.addMachine(1, 1, 0, 3, 2, -1);
        m.addPerson(0, 0, 24);
        Shop.addPerson(m, 1);
        machine("it did nothing yet", m, -1, 0, -1, 0, -1, 0);
        m.run(3);
        m.make(1, 1, 0);
        m.run(1);
        machine("begun", m, 0, 3, 1, 0, 1, 0);
        m.run(2);
        machine("one hour is left", m, 0, 1, 1, 2, 1, 0);
        Checks.equal("who is there", m.machineOf(1), 0);
        Checks.equal("who is not", m.machineOf(0), -1);
        m.setStore(1, 0);
        m.setQueue(0, 0);
        m.run(1);
        machine("none is left, but it stays", m, 0, 0, 1, 3, 1, 0);
        m.setStore(1, 1);
        m.setQueue(0, 1);
        m.rank(m.make(1, 1, 0), 0, true);
        m.run(1);
        machine("it left, and the repair begins", m, -1, 0, -1, 3, 1, 2);
        Checks.equal("who was there is free", m.machineOf(1), -1);
        m.run(1);
        machine("one hour of the repair", m, -1, 0, -1, 3, 1, 2);
        m.run(1);
        machine("it is over", m, -1, 0, -1, 0, 1, 0);
    }

    /** What is against a batch on machine 0, one after the other; each is the first that is so while it lasts. */
    private static void theFirstReasonIsTold() {
        Millrace m = Shop.withBought();
        m.addLine(1, 0, 1, -1);
        m.addOperation(1, 1, 0, 1);
        m.addOperation(2, 0, 0, 9);
        m.addMachine(1, 0, 0, 50, 1, -1);
        m.addMachine(3, 0, 0, 50, 1, -1);
        m.addPerson(0, 0, 24);
        m.setLevel(0, 0, 1);
        m.make(2, 1, 9);
        m.make(1, 1, 0);
        m.make(1, 1, 0);
        m.rank(2, 0, true);
        m.run(1);
        m.recall(2);
        Checks.equal("scrapped, frozen, another class, not free, no one, no parts", m.why(2, 0), 1);
        m.rank(1, 0, true);
        Checks.equal("frozen, another class, not free, no one, no parts", m.why(1, 0), 2);
        Checks.equal("frozen, no one, no parts", m.why(1, 1), 2);
        m.rank(1, 0, false);
        Checks.equal("another class, not free, no one, no parts", m.why(1, 0), 3);
        m.addMachine(2, 0, 0, 50, 1, -1);
        Checks.equal("no one, no parts", m.why(1, 1), 5);
        Shop.addPerson(m, 1);
        Checks.equal("no parts", m.why(1, 1), 6);
        m.make(2, 1, 0);
        Checks.equal("not free", m.why(3, 0), 4);
        m.setLevel(1, 0, 0);
        Checks.equal("not free, no one", m.why(3, 0), 4);
        m.setLevel(1, 0, 1);
        m.stand(true);
        Checks.equal("standing still is no reason", m.why(3, 1), 0);
        m.stand(false);
        m.rank(3, 0, true);
        m.buy(0, 1);
        m.rank(1, 0, true);
        m.run(1);
        m.rank(1, 0, false);
        Checks.equal("none", m.why(1, 1), 0);
        Checks.equal("on a machine, not free", m.why(0, 0), 1);
        Checks.equal("on a machine, another one", m.why(0, 1), 1);
    }

    /** "the machine cannot do the class": each class by each machine. */
    private static void aReasonForEachMachine() {
        for (int work = 0; work < 4; work++) {
            Millrace m = new Millrace();
            m.addOperation(0, work, 0, 1);
            for (int machine = 0; machine < 4; machine++) {
                Shop.addMachine(m, 1 << machine);
            }
            Shop.addMachine(m, 15);
            Shop.addMachine(m, 15 - (1 << work));
            Shop.addPerson(m, 1);
            m.make(0, 1, 0);
            for (int machine = 0; machine < 6; machine++) {
                Checks.equal("the class " + work + " on " + machine, m.why(0, machine),
                    machine == work || machine == 4 ? 0 : 3);
            }
        }
    }

    private static void ledger(String what, Millrace m, int... due) {
        for (int i = 0; i < due.length; i++) {
            Checks.equal(what + ", entry " + i, m.ledger(i), due[i]);
        }
    }

    /** "what was bought, at its price, when it was ordered; what was worked; what is in the factory; ...". */
    private static void theLedgerAtEachStep() {
        Millrace m = new Millrace();
        m.setBought(0, 10, 2);
        m.addLine(1, 0, 1, -1);
        m.addOperation(1, 0, 0, 1);
        m.addMachine(1, 0, 3, 1, 1, 0);
        m.addPerson(4, 0, 24);
        m.setLevel(0, 0, 1);
        ledger("nothing yet", m, 0, 0, 0, 0, 0, 0);
        m.buy(0, 4);
        ledger("ordered", m, 40, 0, 40, 0, 0, 0);
        m.run(3);
        ledger("in store", m, 40, 0, 40, 0, 0, 0);
        m.make(1, 3, 0);
        ledger("waiting", m, 40, 0, 40, 0, 0, 0);
        m.run(1);
        ledger("on a machine", m, 40, 0, 40, 0, 0, 0);
        m.run(1);
        ledger("worked, and the last piece is taken by a repair", m, 40, 7, 37, 0, 0, 10);
        m.order(1, 2, 0);
        m.promise(0);
        m.ship(0);
        ledger("2 pieces of 3 that cost 37 are shipped", m, 40, 7, 13, 0, 24, 10);
        m.recall(1);
        ledger("what is left of them is scrapped", m, 40, 7, 0, 13, 24, 10);
        m.buy(0, 1);
        m.recall(3);
        ledger("what was coming is scrapped", m, 50, 7, 0, 23, 24, 10);
    }

    /** "nothing from here on changes anything": all views of a factory, put twice. */
    private static void nothingChangesByLooking() {
        Millrace looked = Shop.everyState();
        String first = Sight.of(looked);
        Checks.equal("the second look", Sight.of(looked), first);
        String due = Aftermath.of(Shop.everyState());
        Checks.equal("what comes of it", Aftermath.of(looked), due);
    }
}
