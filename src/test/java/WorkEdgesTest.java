/** The sentences about what comes, is worked, leaves and is taken in an hour, that name a boundary case. */
final class WorkEdgesTest {
    private static final int NO_PARTS = 6;

    public static void main(String[] args) {
        whatIsOverdueComesInTheNextHour();
        allPiecesNeedRoom();
        promisedPiecesTakeRoom();
        whatComesIsThereInTheSameHour();
        whatIsDoneIsThereInTheSameHour();
        roomThatIsMadeLateIsForTheNextHour();
        standingStillIsNothingButTime();
        onlyHoursStandStill();
        theNextQueueHasRoomOrNot();
        theNextQueueMayBeItsOwn();
        theStoreHasRoomForAllOrNot();
        theLowestMachineGetsTheLastRoom();
        whatStaysLeavesOutsideOfTheShift();
        whatStaysHoldsMachineAndPerson();
        whoIsFreedGoesOnInTheSameHour();
        theGreatestPriorityAndThenTheLowestNumber();
        theFirstMachineChoosesFirst();
        aFrozenBatchIsNotTaken();
        exactlyEnoughPartsAreEnough();
        promisedPartsAreNotThere();
        promisedPiecesAreOfNoBatch();
        exactlyEnoughStandsIn();
        everyLineMustBeThere();
        linesOfTheSameKindAddUp();
        theSecondOperationTakesNoParts();
        asManyPartsAsThereCanBe();
        whatWasAskedForIsStillThere();
        Checks.end("WorkEdgesTest");
    }

    /** "whose time it is, or was": standing still it is missed, and the batch comes when work goes on. */
    private static void whatIsOverdueComesInTheNextHour() {
        Millrace m = new Millrace();
        m.setBought(0, 1, 2);
        m.buy(0, 1);
        m.stand(true);
        m.run(2);
        m.run(1);
        Checks.equal("in its hour the factory stood still", m.batch(0, 3), 0);
        m.stand(false);
        m.run(1);
        Checks.equal("it came in the hour behind", m.batch(0, 3), 3);
        Checks.equal("which is told", m.batch(0, 9), 3);
    }

    /** "if there is room for all their pieces; otherwise they go on to come". */
    private static void allPiecesNeedRoom() {
        for (int size = 5; size <= 8; size++) {
            Millrace m = Shop.withBought();
            Shop.stocked(m, 0, 4);
            m.setStore(0, size);
            m.buy(0, 3);
            m.run(5);
            Checks.equal("3 more than 4 in " + size, m.store(0, 0), size < 7 ? 4 : 7);
            Checks.equal("what they are", m.batch(1, 3), size < 7 ? 0 : 3);
            Checks.equal("how many they are", m.batch(1, 1), 3);
        }
    }

    private static void promisedPiecesTakeRoom() {
        Millrace m = Shop.withBought();
        m.setStore(0, 5);
        Shop.stocked(m, 0, 3);
        m.order(0, 3, 0);
        m.promise(0);
        m.buy(0, 3);
        m.run(1);
        Checks.equal("no room beside promised pieces", m.batch(1, 3), 0);
        m.ship(0);
        m.run(1);
        Checks.equal("room when they are shipped", m.batch(1, 3), 3);
    }

    /** What comes, first in an hour, is there for a batch that begins in it, and for a repair. */
    private static void whatComesIsThereInTheSameHour() {
        Millrace m = Shop.withBought();
        m.addLine(1, 0, 1, -1);
        m.addOperation(1, 0, 0, 1);
        m.addMachine(1, 0, 0, 1, 1, 0);
        Shop.addPerson(m, 1);
        m.run(1);
        m.make(1, 2, 0);
        m.buy(0, 2);
        m.run(1);
        Checks.equal("begun with what came", m.batch(0, 3), 2);
        m.buy(0, 1);
        m.run(1);
        Checks.equal("done", m.batch(0, 3), 3);
        Checks.equal("the repair begins with what came", m.machine(0, 5), 2);
    }

    /** What is done goes into store ahead of what begins in the hour, on whichever machine. */
    private static void whatIsDoneIsThereInTheSameHour() {
        for (int maker = 0; maker < 2; maker++) {
            Millrace m = new Millrace();
            m.addOperation(0, maker, 0, 2);
            m.addLine(1, 0, 1, -1);
            m.addOperation(1, 1 - maker, 1, 1);
            Shop.addMachine(m, 1);
            Shop.addMachine(m, 2);
            Shop.addPerson(m, 1);
            Shop.addPerson(m, 1);
            m.make(0, 1, 0);
            m.make(1, 1, 0);
            m.run(2);
            Checks.equal("nothing to begin with", m.why(1, 1 - maker), NO_PARTS);
            m.run(1);
            Checks.equal("begun on the other machine", m.machine(1 - maker, 0), 1);
            Checks.equal("with what was done on " + maker, m.parent(1, 0), 0);
        }
    }

    /** What begins takes its parts last in an hour: what comes, or is done, has that room only in the next one. */
    private static void roomThatIsMadeLateIsForTheNextHour() {
        Millrace m = Shop.withBought();
        m.setStore(0, 2);
        m.addLine(1, 0, 2, -1);
        m.addOperation(1, 0, 0, 1);
        Shop.addMachine(m, 1);
        Shop.addPerson(m, 1);
        m.buy(0, 2);
        m.buy(0, 2);
        m.make(1, 1, 0);
        m.run(1);
        Checks.equal("the first two were taken", m.batch(0, 3), 4);
        Checks.equal("the next had no room", m.batch(1, 3), 0);
        m.run(1);
        Checks.equal("they have it an hour later", m.batch(1, 9), 1);
    }

    /** "While the factory stands still, an hour is 1 more, and nothing else": with all that could be done in it. */
    private static void standingStillIsNothingButTime() {
        Millrace m = Shop.withMade(2);
        m.addMachine(1, 0, 1, 2, 3, -1);
        Shop.addMachine(m, 1);
        Shop.addPerson(m, 1);
        m.make(1, 1, 5);
        m.run(3);
        m.make(1, 1, 5);
        m.make(1, 1, 5);
        m.run(1);
        m.buy(0, 1);
        Checks.equal("a repair is on", m.machine(0, 5), 2);
        m.stand(true);
        Checks.equal("the hour", m.run(40), 44);
        int[][] due = {{-1, 0, -1, 2, 1, 2}, {1, 2, 0, 0, 1, 0}};
        for (int machine = 0; machine < 2; machine++) {
            for (int what = 0; what <= 5; what++) {
                Checks.equal("machine " + machine + ", " + what, m.machine(machine, what), due[machine][what]);
            }
        }
        Checks.equal("one is coming", m.batch(3, 3), 0);
        Checks.equal("one waits", m.batch(2, 3), 1);
        Checks.equal("worked", m.ledger(1), 2);
        m.stand(false);
        m.run(1);
        Checks.equal("the repair is not over", m.machine(0, 5), 2);
        Checks.equal("work goes on", m.machine(1, 1), 1);
        Checks.equal("it came", m.batch(3, 9), 44);
        m.run(1);
        Checks.equal("the repair is over in its third hour", m.machine(0, 5), 0);
    }

    /** Standing still, and the last hour, refuse no call but those of hours beyond it. */
    private static void onlyHoursStandStill() {
        for (int way = 0; way < 4; way++) {
            Millrace m = Shop.withMade(1);
            Shop.stocked(m, 0, 5);
            m.stand((way & 1) != 0);
            Shop.pass(m, (way & 2) != 0 ? 1999 : 0);
            m.setBought(2, 1, 1);
            Checks.equal("a line", m.addLine(3, 0, 1, -1), 1);
            Checks.equal("an operation", m.addOperation(3, 0, 0, 1), 1);
            Checks.equal("the store before", m.setStore(0, 7), 20);
            Checks.equal("the queue before", m.setQueue(0, 8), 9);
            Checks.equal("a machine", Shop.addMachine(m, 1), 0);
            Checks.equal("a person", m.addPerson(1, 0, 24), 0);
            Checks.equal("the level before", m.setLevel(0, 0, 1), 0);
            Checks.equal("a batch that comes", m.buy(0, 2), 1);
            Checks.equal("it comes later", m.late(1, 3), m.hour() + 3);
            Checks.equal("a batch that waits", m.make(1, 4, 2), 2);
            Checks.isTrue("it was not frozen", !m.rank(2, 3, false));
            Checks.equal("split off", m.split(2, 1), 3);
            Checks.equal("joined again", m.join(2, 3), 4);
            Checks.equal("an order", m.order(0, 2, 0), 0);
            Checks.equal("promised to it", m.promise(0), 2);
            Checks.equal("shipped for it", m.ship(0), 5);
            Checks.equal("nothing is against it", m.why(4, 0), 0);
            Checks.equal("what it takes", m.earliest(1), m.hour() + 1);
            Checks.equal("recalled", m.recall(4), 1);
            Checks.equal("in the factory", m.ledger(2), 50);
        }
    }

    /** "into the queue of its next operation, if there is room": for none, one or two that wait there already. */
    private static void theNextQueueHasRoomOrNot() {
        for (int size = 0; size <= 3; size++) {
            Millrace m = new Millrace();
            m.addOperation(0, 0, 0, 1);
            m.addOperation(0, 1, 0, 1);
            Shop.addMachine(m, 1);
            Shop.addPerson(m, 1);
            m.setQueue(1, size);
            for (int i = 0; i < 4; i++) {
                m.make(0, 1, 0);
            }
            m.run(9);
            Checks.equal("wait in a queue of " + size, m.queue(1), size);
            Checks.equal("the next one stays", m.machine(0, 0), size);
            Checks.equal("with its operation done", m.machine(0, 1), 0);
            Checks.equal("which is still told", m.batch(size, 4), 0);
            m.setQueue(1, size + 1);
            m.run(1);
            Checks.equal("wait in a queue of 1 more", m.queue(1), size + 1);
        }
    }

    /** A batch that is on a machine does not wait: it takes no room in the queue from which it came. */
    private static void theNextQueueMayBeItsOwn() {
        for (int size = 0; size <= 2; size++) {
            Millrace m = new Millrace();
            m.addOperation(0, 0, 0, 1);
            m.addOperation(0, 0, 0, 5);
            Shop.addMachine(m, 1);
            Shop.addPerson(m, 1);
            m.make(0, 1, 5);
            m.make(0, 1, 4);
            m.run(1);
            m.setQueue(0, size);
            m.run(1);
            Checks.equal("beside 1 in a queue of " + size, m.batch(0, 4), size < 2 ? 0 : 1);
            Checks.equal("on the machine", m.machine(0, 0), 0);
            Checks.equal("hours left", m.machine(0, 1), size < 2 ? 0 : 5);
            m.recall(1);
            m.run(1);
            Checks.equal("alone, in a queue of " + size, m.batch(0, 4), size < 1 ? 0 : 1);
        }
    }

    /** "it goes into store, if there is room": for all its pieces. */
    private static void theStoreHasRoomForAllOrNot() {
        for (int size = 0; size <= 7; size++) {
            Millrace m = Shop.working(1);
            m.setStore(1, size);
            m.make(1, 3, 5);
            m.make(1, 4, 4);
            m.run(9);
            int due = size < 3 ? 0 : size < 7 ? 3 : 7;
            Checks.equal("pieces in a store of " + size, m.store(1, 0), due);
            Checks.equal("the one that stays", m.machine(0, 0), size < 3 ? 0 : size < 7 ? 1 : -1);
        }
    }

    /** "Machines by rising numbers": two are done in the same hour, and there is room for one of their batches. */
    private static void theLowestMachineGetsTheLastRoom() {
        for (int operations = 1; operations <= 2; operations++) {
            Millrace m = new Millrace();
            for (int i = 0; i < operations; i++) {
                m.addOperation(0, i, 0, 2);
            }
            for (int i = 0; i < 2; i++) {
                Shop.addMachine(m, 1);
                Shop.addPerson(m, 1);
            }
            m.setStore(0, 1);
            m.setQueue(1, 1);
            m.make(0, 1, 0);
            m.make(0, 1, 9);
            m.run(1);
            Checks.equal("the first machine has the batch 1", m.machine(0, 0), 1);
            m.run(2);
            Checks.equal("it leaves", m.machine(0, 0), -1);
            Checks.equal("for the store, or the next queue", m.batch(1, 3), operations == 1 ? 3 : 1);
            Checks.equal("the batch 0 stays on the second one", m.machine(1, 0), 0);
        }
    }

    /** "If none is left, what follows is done": no one need be on shift for that. */
    private static void whatStaysLeavesOutsideOfTheShift() {
        Millrace m = Shop.withMade(2);
        Shop.addMachine(m, 1);
        m.addPerson(0, 0, 4);
        m.setLevel(0, 0, 1);
        m.setStore(1, 0);
        m.make(1, 1, 0);
        m.run(6);
        Checks.equal("it stays", m.machine(0, 0), 0);
        m.setStore(1, 9);
        m.run(1);
        Checks.equal("it leaves in the hour 6", m.batch(0, 3), 3);
        Checks.equal("the person is free", m.machineOf(0), -1);
    }

    /** What stays costs, wears and teaches no more, and neither its machine nor its person begins anything. */
    private static void whatStaysHoldsMachineAndPerson() {
        Millrace m = Shop.withMade(7);
        m.addMachine(1, 0, 5, 50, 1, -1);
        Shop.addMachine(m, 1);
        m.addPerson(2, 0, 24);
        m.setLevel(0, 0, 1);
        m.setStore(1, 0);
        m.make(1, 1, 9);
        m.make(1, 1, 0);
        m.run(40);
        int[] due = {0, 0, 0, 7, 1, 0};
        for (int what = 0; what <= 5; what++) {
            Checks.equal("the machine, " + what, m.machine(0, what), due[what]);
        }
        Checks.equal("7 hours of 7", m.batch(0, 2), 49);
        Checks.equal("7 hours are not 8", m.level(0, 0), 1);
        Checks.equal("no one for the other one", m.why(1, 1), 5);
    }

    /** Who leaves a machine with the batch is free for any other machine in the same hour. */
    private static void whoIsFreedGoesOnInTheSameHour() {
        Millrace m = new Millrace();
        m.addOperation(0, 1, 0, 1);
        m.addOperation(0, 0, 0, 2);
        Shop.addMachine(m, 1);
        Shop.addMachine(m, 2);
        Shop.addPerson(m, 1);
        m.make(0, 1, 0);
        m.run(1);
        Checks.equal("at the second machine", m.machineOf(0), 1);
        m.run(1);
        Checks.equal("at the first one an hour later", m.machineOf(0), 0);
        Checks.equal("with the same batch", m.machine(0, 0), 0);
    }

    /** "that with the greatest priority, of several the one with the lowest number". */
    private static void theGreatestPriorityAndThenTheLowestNumber() {
        int[][] priorities = {{0, 0, 0}, {0, 1, 0}, {0, 1, 1}, {9, 9, 8}, {8, 9, 9}, {1, 0, 9}, {9, 0, 9}};
        int[] due = {0, 1, 1, 0, 1, 2, 0};
        for (int i = 0; i < priorities.length; i++) {
            Millrace m = Shop.working(1);
            for (int priority : priorities[i]) {
                m.make(1, 1, priority);
            }
            m.run(1);
            Checks.equal("taken of the row " + i, m.machine(0, 0), due[i]);
        }
    }

    /** Machines choose, by rising numbers: so whoever the first one needs is not there for a greater priority. */
    private static void theFirstMachineChoosesFirst() {
        Millrace m = new Millrace();
        m.addOperation(0, 0, 0, 1);
        m.addOperation(1, 1, 0, 1);
        Shop.addMachine(m, 1);
        Shop.addMachine(m, 2);
        Shop.addPerson(m, 1);
        m.make(0, 1, 0);
        m.make(1, 1, 9);
        m.run(1);
        Checks.equal("the first machine has what it can do", m.machine(0, 0), 0);
        Checks.equal("no one is left for the second one", m.machine(1, 0), -1);
        Checks.equal("which is why", m.why(1, 1), 5);
    }

    private static void aFrozenBatchIsNotTaken() {
        Millrace m = Shop.working(1);
        m.make(1, 1, 0);
        m.rank(0, 9, true);
        m.run(50);
        Checks.equal("it waits on", m.batch(0, 3), 1);
        m.make(1, 1, 0);
        m.run(1);
        Checks.equal("a lower one is taken", m.machine(0, 0), 1);
        m.rank(0, 9, false);
        m.run(1);
        Checks.equal("it is taken when it is not frozen any more", m.machine(0, 0), 0);
    }

    /** Kind 2 takes 2 of kind 0, or of kind 1 if these are lacking; so many of both are in store. Batch 2 is of it. */
    private static Millrace withParts(int parts, int others, int pieces) {
        Millrace m = new Millrace();
        m.setBought(0, 1, 0);
        m.setBought(1, 5, 0);
        m.addLine(2, 0, 2, 1);
        m.addOperation(2, 0, 0, 1);
        Shop.addMachine(m, 1);
        Shop.addPerson(m, 1);
        m.buy(0, parts);
        m.buy(1, others);
        m.run(1);
        m.make(2, pieces, 0);
        return m;
    }

    /** "the pieces can be taken, all of the line's kind". */
    private static void exactlyEnoughPartsAreEnough() {
        for (int parts = 5; parts <= 7; parts++) {
            Millrace m = withParts(parts, 1, 3);
            Checks.equal("why, with " + parts + " of 6", m.why(2, 0), parts < 6 ? NO_PARTS : 0);
            m.run(1);
            Checks.equal("left of " + parts, m.store(0, 0), parts < 6 ? parts : parts - 6);
            Checks.equal("the others", m.store(1, 0), 1);
            Checks.equal("its cost", m.batch(2, 2), parts < 6 ? 0 : 6);
        }
    }

    /** "only what is not promised": of 7 pieces 6 can be taken when 1 is promised, and not when 2 are. */
    private static void promisedPartsAreNotThere() {
        for (int promised = 1; promised <= 2; promised++) {
            Millrace m = withParts(7, 1, 3);
            m.order(0, promised, 0);
            m.promise(0);
            Checks.equal("why, with " + promised + " promised", m.why(2, 0), promised == 1 ? 0 : NO_PARTS);
            m.run(1);
            Checks.equal("left", m.store(0, 0), promised == 1 ? 1 : 7);
            Checks.equal("promised", m.store(0, 1), promised);
        }
    }

    /** "by rising numbers, only what is not promised": pieces are promised, and not those of this batch or that. */
    private static void promisedPiecesAreOfNoBatch() {
        Millrace m = Shop.withMade(1);
        m.addLine(2, 0, 1, -1);
        m.addOperation(2, 0, 0, 1);
        m.addMachine(1, 0, 0, 1, 1, 0);
        Shop.addPerson(m, 1);
        Shop.stocked(m, 0, 2);
        m.order(0, 2, 0);
        Checks.equal("promised when only the first batch is there", m.promise(0), 2);
        Shop.stocked(m, 0, 3);
        m.make(2, 1, 0);
        m.run(1);
        Checks.equal("a batch takes of the first one", m.parent(2, 0), 0);
        Checks.equal("and of no other", m.parent(2, 1), -1);
        m.run(1);
        Checks.equal("a repair has begun", m.machine(0, 5), 2);
        Checks.equal("it took the other piece of the first one", m.batch(0, 3), 4);
        m.ship(0);
        Checks.equal("what is shipped is of the second one", m.parent(3, 0), 1);
        Checks.equal("of which 1 piece is left", m.batch(1, 1), 1);
    }

    /** "or, if these are not enough, all of the one that stands in". */
    private static void exactlyEnoughStandsIn() {
        for (int others = 5; others <= 7; others++) {
            Millrace m = withParts(5, others, 3);
            Checks.equal("why, with " + others + " of 6", m.why(2, 0), others < 6 ? NO_PARTS : 0);
            m.run(1);
            Checks.equal("left of these", m.store(1, 0), others < 6 ? others : others - 6);
            Checks.equal("left of the line's kind", m.store(0, 0), 5);
            Checks.equal("its cost", m.batch(2, 2), others < 6 ? 0 : 30);
        }
        for (int promised = 1; promised <= 2; promised++) {
            Millrace m = withParts(5, 7, 3);
            m.order(1, promised, 0);
            m.promise(0);
            Checks.equal("why, with " + promised + " promised", m.why(2, 0), promised == 1 ? 0 : NO_PARTS);
        }
        Millrace both = withParts(6, 6, 3);
        both.run(1);
        Checks.equal("the line's kind, if both are enough", both.store(0, 0), 0);
        Checks.equal("none of the other", both.store(1, 0), 6);
    }

    /** "for each line of the bill": 3 lines, and of one of them, or of none, 1 piece is lacking. */
    private static void everyLineMustBeThere() {
        for (int lacking = 0; lacking <= 3; lacking++) {
            Millrace m = new Millrace();
            for (int kind = 0; kind < 3; kind++) {
                m.setBought(kind, 1, 0);
                m.addLine(3, kind, kind + 1, -1);
                m.buy(kind, lacking == kind ? 2 * kind + 1 : 2 * kind + 2);
            }
            m.addOperation(3, 0, 0, 1);
            Shop.addMachine(m, 1);
            Shop.addPerson(m, 1);
            m.make(3, 2, 0);
            m.run(1);
            Checks.equal("1 is lacking of " + lacking, m.batch(3, 3), lacking == 3 ? 2 : 1);
            Checks.equal("parents", m.batch(3, 8), lacking == 3 ? 3 : 0);
            int left = m.store(0, 0) + m.store(1, 0) + m.store(2, 0);
            Checks.equal("nothing is taken, or all", left, lacking == 3 ? 0 : 11);
        }
    }

    /** "lines one after the other": 3 lines of the same kind, and the third one of what stands in. */
    private static void linesOfTheSameKindAddUp() {
        for (int parts = 7; parts <= 9; parts++) {
            Millrace m = Shop.withBought();
            m.addLine(1, 0, 1, -1);
            m.addLine(1, 0, 2, -1);
            m.addLine(1, 0, 1, -1);
            m.addOperation(1, 0, 0, 1);
            Shop.addMachine(m, 1);
            Shop.addPerson(m, 1);
            Shop.stocked(m, 0, parts);
            m.make(1, 2, 0);
            Checks.equal("why, with " + parts + " of 2, 4 and 2", m.why(1, 0), parts < 8 ? NO_PARTS : 0);
            m.run(1);
            Checks.equal("left of " + parts, m.store(0, 0), parts < 8 ? parts : parts - 8);
            Checks.equal("its cost", m.batch(1, 2), parts < 8 ? 0 : 80);
        }
        for (int others = 1; others <= 3; others++) {
            Millrace m = new Millrace();
            m.setBought(0, 1, 0);
            m.setBought(1, 5, 0);
            for (int i = 0; i < 3; i++) {
                m.addLine(2, 0, 1, 1);
            }
            m.addOperation(2, 0, 0, 1);
            Shop.addMachine(m, 1);
            Shop.addPerson(m, 1);
            m.buy(0, 5);
            m.buy(1, others);
            m.make(2, 2, 0);
            m.run(1);
            Checks.equal("the third line takes 2 of " + others, m.store(1, 0), others < 2 ? others : others - 2);
            Checks.equal("the first two take 4 of 5", m.store(0, 0), others < 2 ? 5 : 1);
            Checks.equal("parents", m.batch(2, 8), others < 2 ? 0 : 2);
            Checks.equal("their cost", m.batch(2, 2), others < 2 ? 0 : 14);
        }
    }

    /** "and, for the first operation": the second one begins with nothing in store. */
    private static void theSecondOperationTakesNoParts() {
        Millrace m = Shop.withBought();
        m.addLine(1, 0, 3, -1);
        m.addOperation(1, 0, 0, 1);
        m.addOperation(1, 0, 0, 1);
        Shop.addMachine(m, 1);
        Shop.addPerson(m, 1);
        m.buy(0, 3);
        m.make(1, 1, 0);
        m.run(2);
        Checks.equal("nothing is in store", m.store(0, 0), 0);
        Checks.equal("the second operation", m.batch(1, 4), 1);
        Checks.equal("is begun", m.batch(1, 3), 2);
        Checks.equal("with the cost of 3 parts", m.batch(1, 2), 30);
    }

    /** "many: 1 to 3", "pieces: 1 to 20": 60 of the kinds of each of three lines, or 1 less of the last one. */
    private static void asManyPartsAsThereCanBe() {
        for (int last = 19; last <= 20; last++) {
            Millrace m = new Millrace();
            for (int kind = 0; kind < 3; kind++) {
                m.setBought(kind, 99, 0);
                m.setStore(kind, 60);
                m.addLine(3, kind, 3, -1);
                m.buy(kind, 20);
                m.buy(kind, 20);
                m.buy(kind, kind == 2 ? last : 20);
            }
            m.addOperation(3, 0, 0, 1);
            Shop.addMachine(m, 1);
            Shop.addPerson(m, 1);
            int batch = m.make(3, 20, 0);
            m.run(1);
            Checks.equal("begun with " + last + " of the last 20", m.batch(batch, 3), last == 20 ? 2 : 1);
            Checks.equal("left of the first", m.store(0, 0), last == 20 ? 0 : 60);
            Checks.equal("left of the last", m.store(2, 0), last == 20 ? 0 : 59);
            Checks.equal("their cost", m.batch(batch, 2), last == 20 ? 180 * 99 : 0);
            Checks.equal("parents", m.batch(batch, 8), last == 20 ? 9 : 0);
        }
    }

    /** To ask whether the parts are there takes none of them, neither of the line's kind nor of what stands in. */
    private static void whatWasAskedForIsStillThere() {
        for (int pieces = 1; pieces <= 4; pieces++) {
            Millrace m = withParts(3, 5, pieces);
            m.rank(2, 0, true);
            m.order(0, 20, 0);
            m.order(1, 20, 0);
            m.rank(2, 0, false);
            for (int i = 0; i < 3; i++) {
                Checks.equal("why, for " + pieces + " pieces", m.why(2, 0), pieces < 3 ? 0 : NO_PARTS);
            }
            Checks.equal("all of the line's kind", m.promise(0), 3);
            Checks.equal("all of the other one", m.promise(1), 5);
        }
    }
}
