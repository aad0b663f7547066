/** The sentences about wear, faults, what is done again, and repairs, that name a boundary case. */
final class FaultsEdgesTest {
    private static final int NEVER = 50;

    public static void main(String[] args) {
        theRemainderIsLessThanTheQuota();
        theQuotaIsRoundedDown();
        theQuotaIsRoundedDownForTheGreatestLimit();
        batchAndOperationCount();
        wearOfAllBatchesCounts();
        aFaultIsDrawnWhenTheOperationIsDone();
        aFaultIsFoundTwoOperationsLaterOrAtTheLast();
        ofSeveralFaultsTheFirstOne();
        whatWasSentBackOnceIsScrapped();
        whatGoesBackOrIsScrappedLeavesItsMachine();
        whatIsJoinedHasTheFaultsOfBoth();
        theQueueOfTheFaultHasRoomOrNot();
        wearAtTheLimitNeedsARepair();
        aRepairTakesItsHours();
        aRepairTakesOnePieceOnce();
        theLowestMachineGetsThePiece();
        aRepairTakesWhatIsDoneInTheSameHour();
        aRepairComesAheadOfWhatBegins();
        aRepairTakesTheShareOfAPiece();
        Checks.end("FaultsEdgesTest");
    }

    /** Whether batch 0, of one operation, has a fault when it is done with that wear in each of the hours 22 to 32. */
    private static String faults(int wear, int limit) {
        StringBuilder signs = new StringBuilder();
        for (int done = 22; done < 33; done++) {
            int setUp = Math.max(0, wear - 9);
            Millrace m = Shop.withMade(wear - setUp);
            m.addMachine(1, setUp, 0, limit, 1, -1);
            Shop.addPerson(m, 1);
            Shop.pass(m, done - wear);
            m.make(1, 1, 0);
            m.run(wear + 1);
            boolean isBack = m.batch(0, 7) == 1;
            Checks.equal("wear " + wear + ", in store behind the hour " + done, m.store(1, 0), isBack ? 0 : 1);
            signs.append(isBack ? '#' : '.');
        }
        return signs.toString();
    }

    /**
     * "the remainder by 11 of 7 times the batch, 5 times the operation and 3 times the hour, together, is less than 4
     * times the wear, divided by the limit": from the hour 22 on the remainders are 0, 3, 6, 9, 1, 4, 7, 10, 2, 5, 8.
     */
    private static void theRemainderIsLessThanTheQuota() {
        Checks.equal("less than 1", faults(1, 4), "#..........");
        Checks.equal("less than 2", faults(2, 4), "#...#......");
        Checks.equal("less than 3", faults(3, 4), "#...#...#..");
        Checks.equal("less than 4", faults(4, 4), "##..#...#..");
        Checks.equal("less than 8", faults(8, 4), "###.###.##.");
        Checks.equal("less than 9", faults(9, 4), "###.###.###");
        Checks.equal("less than 10", faults(10, 4), "#######.###");
        Checks.equal("less than 11", faults(11, 4), "###########");
        Checks.equal("less than 14", faults(14, 4), "###########");
    }

    /** "rounded down". */
    private static void theQuotaIsRoundedDown() {
        Checks.equal("4 by 5", faults(1, 5), "...........");
        Checks.equal("8 by 9", faults(2, 9), "...........");
        Checks.equal("8 by 8", faults(2, 8), "#..........");
        Checks.equal("8 by 7", faults(2, 7), "#..........");
        Checks.equal("8 by 5", faults(2, 5), "#..........");
        Checks.equal("8 by 3", faults(2, 3), "#...#......");
        Checks.equal("16 by 6", faults(4, 6), "#...#......");
        Checks.equal("20 by 6", faults(5, 6), "#...#...#..");
        Checks.equal("24 by 2", faults(6, 2), "###########");
    }

    /** "limit: 1 to 50 hours": 48 by 50 is nothing, 52 by 50 is 1; and 4 times an hour by 1 is 4. */
    private static void theQuotaIsRoundedDownForTheGreatestLimit() {
        Checks.equal("48 by 50", faults(12, 50), "...........");
        Checks.equal("52 by 50", faults(13, 50), "#..........");
        Checks.equal("52 by 49", faults(13, 49), "#..........");
        Checks.equal("4 by 1", faults(1, 1), "##..#...#..");
        Checks.equal("8 by 1", faults(2, 1), "###.###.##.");
    }

    /** Whether the batch of that number has a fault in that operation, its last, if it has one for 4 remainders. */
    private static String faultsOf(int number, int operation) {
        StringBuilder signs = new StringBuilder();
        for (int done = 22; done < 33; done++) {
            Millrace m = Shop.withBought();
            for (int i = 0; i < operation; i++) {
                m.addOperation(1, 1, 0, 1);
            }
            m.addOperation(1, 0, 0, 3);
            m.addMachine(1, 0, 0, 3, 1, -1);
            Shop.addMachine(m, 2);
            Shop.addPerson(m, 1);
            Shop.fill(m, number);
            Shop.pass(m, done - operation - 3);
            Checks.equal("its number", m.make(1, 1, 0), number);
            m.run(operation + 4);
            signs.append(m.batch(number, 7) == 1 ? '#' : '.');
        }
        return signs.toString();
    }

    /** The same sentence, with the number of the batch and the operation in the remainder. */
    private static void batchAndOperationCount() {
        Checks.equal("batch 0, operation 0", faultsOf(0, 0), "##..#...#..");
        Checks.equal("batch 1, operation 0: 7 more", faultsOf(1, 0), "..#..##..#.");
        Checks.equal("batch 11, operation 0: 77 more are none", faultsOf(11, 0), "##..#...#..");
        Checks.equal("batch 0, operation 1: 5 more", faultsOf(0, 1), "..##..#...#");
        Checks.equal("batch 0, operation 3: 15 more", faultsOf(0, 3), "...#..##..#");
        Checks.equal("batch 59, operation 0: 413 more", faultsOf(59, 0), "..#...#..##");
        Checks.equal("batch 2, operation 2: 24 more", faultsOf(2, 2), "#..##..#...");
    }

    /** "4 times the wear": of all that the machine did since its last repair, and not of this batch alone. */
    private static void wearOfAllBatchesCounts() {
        Millrace m = Shop.withMade(7);
        m.addOperation(2, 0, 0, 1);
        m.addMachine(1, 0, 0, 9, 1, -1);
        Shop.addPerson(m, 1);
        m.run(5);
        m.make(1, 1, 9);
        m.make(2, 1, 0);
        m.run(8);
        Checks.equal("done in the hour 12, 3 is not less than 28 by 9", m.batch(0, 3), 3);
        m.run(1);
        Checks.equal("done in the hour 13, 2 is less than 32 by 9", m.batch(1, 7), 1);
        m.run(1);
        Checks.equal("done in the hour 14, 5 is not less than 36 by 9", m.batch(1, 3), 3);
    }

    /** "just once each time that an operation is done": in the hour of that, though the batch stays for more hours. */
    private static void aFaultIsDrawnWhenTheOperationIsDone() {
        for (int stays = 0; stays < 12; stays++) {
            for (int done = 22; done < 33; done++) {
                Millrace m = Shop.withMade(4);
                m.addMachine(1, 0, 0, 4, 1, -1);
                Shop.addPerson(m, 1);
                Shop.pass(m, done - 4);
                m.make(1, 1, 0);
                m.run(1);
                m.setStore(1, 0);
                m.setQueue(0, 0);
                m.run(4 + stays);
                Checks.equal("it stays", m.machine(0, 0), 0);
                m.setStore(1, 9);
                m.setQueue(0, 9);
                m.run(1);
                boolean isDue = "##..#...#..".charAt(done - 22) == '#';
                Checks.equal("done in " + done + ", stays " + stays, m.batch(0, 7), isDue ? 1 : 0);
            }
        }
    }

    /**
     * A route of so many operations. That of the fault takes 4 hours on a machine whose limit is 1, so that it always
     * is done with one; the others take an hour each, on one that never draws any.
     */
    private static Millrace route(int operations, int... withFault) {
        Millrace m = new Millrace();
        int next = 0;
        for (int i = 0; i < operations; i++) {
            boolean isFaulty = next < withFault.length && withFault[next] == i;
            m.addOperation(0, isFaulty ? 0 : 1, 0, isFaulty ? 4 : 1);
            next += isFaulty ? 1 : 0;
        }
        m.addMachine(1, 0, 0, 1, 1, -1);
        m.addMachine(2, 0, 0, NEVER, 1, -1);
        Shop.addPerson(m, 1);
        m.make(0, 1, 0);
        return m;
    }

    /** Goes on until the batch is sent back, scrapped or in store; the last operation that was on a machine then. */
    private static int lastOperation(Millrace m, int wasBack) {
        int operation = -1;
        for (int hour = 0; hour < 40 && m.batch(0, 7) == wasBack && m.batch(0, 3) < 3; hour++) {
            operation = m.batch(0, 4);
            m.run(1);
        }
        return operation;
    }

    /** "at the end of the second operation behind it, or of the last one, if that is earlier". */
    private static void aFaultIsFoundTwoOperationsLaterOrAtTheLast() {
        int[][] found = {{0}, {1, 1}, {2, 2, 2}, {2, 3, 3, 3}};
        for (int operations = 1; operations <= 4; operations++) {
            for (int fault = 0; fault < operations; fault++) {
                String what = "fault " + fault + " of " + operations;
                Millrace m = route(operations, fault);
                Checks.equal(what + ", found behind", lastOperation(m, 0), found[operations - 1][fault]);
                Checks.equal(what + ", sent back", m.batch(0, 7), 1);
                Checks.equal(what + ", to", m.batch(0, 4), fault);
                Checks.equal(what + ", found again behind", lastOperation(m, 1), found[operations - 1][fault]);
                Checks.equal(what + ", scrapped", m.batch(0, 3), 5);
            }
            Millrace good = route(operations);
            Checks.equal("without a fault", lastOperation(good, 0), operations - 1);
            Checks.equal("in store", good.batch(0, 3), 3);
        }
    }

    /** "of several found at once to the first one". */
    private static void ofSeveralFaultsTheFirstOne() {
        int[][] faults = {{0, 1}, {1, 2}, {0, 2}, {0, 1, 2}};
        int[] due = {0, 1, 0, 0};
        for (int i = 0; i < faults.length; i++) {
            Millrace m = route(3, faults[i]);
            Checks.equal("found behind the last one, row " + i, lastOperation(m, 0), 2);
            Checks.equal("back to the first one, row " + i, m.batch(0, 4), due[i]);
        }
        Millrace early = route(4, 0, 1);
        Checks.equal("found behind operation 2", lastOperation(early, 0), 2);
        Checks.equal("only the first one was to be found", early.batch(0, 4), 0);
        Millrace late = route(4, 1, 3);
        Checks.equal("found behind operation 3", lastOperation(late, 0), 3);
        Checks.equal("back to the first of both", late.batch(0, 4), 1);
    }

    /** A batch of two operations, sent back to the first one; the machine that did it lacks what its repair takes. */
    private static Millrace sentBack() {
        Millrace m = new Millrace();
        m.addOperation(0, 0, 0, 3);
        m.addOperation(0, 1, 0, 3);
        m.addMachine(1, 0, 0, 1, 1, 11);
        Shop.addMachine(m, 2);
        Shop.addPerson(m, 1);
        m.make(0, 1, 0);
        Checks.equal("found behind the second one", lastOperation(m, 0), 1);
        Checks.equal("a repair is needed", m.machine(0, 5), 1);
        return m;
    }

    /** "if it was never sent back, if not, it is scrapped": for whichever operation; without a fault it is done. */
    private static void whatWasSentBackOnceIsScrapped() {
        Millrace good = sentBack();
        Shop.addMachine(good, 1);
        Checks.equal("both are done well", lastOperation(good, 1), 1);
        Checks.equal("it goes into store", good.batch(0, 3), 3);
        Checks.equal("and was sent back once", good.batch(0, 7), 1);
        Millrace bad = sentBack();
        Shop.addMachine(bad, 1);
        bad.addMachine(2, 0, 0, 1, 1, -1);
        bad.addOperation(1, 1, 1, 9);
        bad.addPerson(0, 0, 24);
        bad.setLevel(1, 1, 3);
        bad.setLevel(0, 0, 1);
        bad.make(1, 1, 9);
        Checks.equal("what was sent back waits, as the other one", bad.queue(0) * 10 + bad.queue(1), 11);
        Checks.equal("for the operation of the fault", bad.queued(0, 0), 0);
        bad.run(1);
        Checks.equal("neither waits", bad.queue(0) * 10 + bad.queue(1), 0);
        Checks.equal("another batch is on the machine that does the second one well", bad.machine(1, 0), 1);
        Checks.equal("the first one is done again, and the second", lastOperation(bad, 1), 1);
        Checks.equal("the fault of the second one is its second", bad.batch(0, 3), 5);
        Checks.equal("the machine of that is free", bad.machine(3, 0), -1);
    }

    /** "When it leaves, the person is free, and ... it needs a repair": wherever the batch goes. */
    private static void whatGoesBackOrIsScrappedLeavesItsMachine() {
        Millrace m = route(1, 0);
        for (int round = 0; round < 2; round++) {
            lastOperation(m, round);
            Checks.equal("what it is", m.batch(0, 3), round == 0 ? 1 : 5);
            Checks.equal("the machine is free", m.machine(0, 0), -1);
            Checks.equal("the person, too", m.machineOf(0), -1);
            Checks.equal("its repair has begun", m.machine(0, 5), 2);
            Checks.equal("its wear is not over", m.machine(0, 3), 4);
        }
    }

    /** "the faults of both, and was sent back if one was": joined one way and the other. */
    private static void whatIsJoinedHasTheFaultsOfBoth() {
        for (int first = 0; first < 2; first++) {
            Millrace m = new Millrace();
            m.addOperation(0, 0, 0, 4);
            m.addOperation(0, 1, 0, 1);
            m.addMachine(1, 0, 0, 1, 1, 11);
            Shop.addMachine(m, 2);
            Shop.addMachine(m, 1);
            Shop.addPerson(m, 1);
            m.make(0, 1, 0);
            m.run(1);
            m.setLevel(0, 0, 0);
            m.run(4);
            Checks.equal("batch 0 has a fault, and waits for operation 1", m.batch(0, 3) * 10 + m.batch(0, 4), 11);
            m.make(0, 1, 0);
            m.rank(0, 0, true);
            m.setLevel(0, 0, 1);
            m.run(1);
            Checks.equal("batch 1 is on a machine that is not worn", m.machine(2, 0), 1);
            m.setLevel(0, 0, 0);
            m.run(4);
            Checks.equal("batch 1 waits for operation 1, too", m.batch(1, 3) * 10 + m.batch(1, 4), 11);
            m.rank(0, 0, false);
            int both = m.join(first, 1 - first);
            m.setLevel(0, 0, 1);
            m.run(1);
            m.setLevel(0, 0, 0);
            m.run(1);
            Checks.equal("the fault is found in what is joined", m.batch(both, 7), 1);
            Checks.equal("it goes back to operation 0", m.batch(both, 3) * 10 + m.batch(both, 4), 10);
        }
        for (int back = 0; back < 4; back++) {
            Millrace m = Shop.sentBack();
            m.split(0, 1);
            m.make(1, 1, 0);
            m.make(1, 1, 0);
            int one = (back & 1) != 0 ? 0 : 2;
            int two = (back & 2) != 0 ? 1 : 3;
            Checks.equal("whether joined ones were sent back", m.batch(m.join(one, two), 7), back > 0 ? 1 : 0);
        }
    }

    /** "into its queue", "Without room, in that of the operation of the fault, too, it stays". */
    private static void theQueueOfTheFaultHasRoomOrNot() {
        for (int size = 0; size <= 2; size++) {
            Millrace m = route(2, 0);
            m.run(1);
            m.make(0, 1, 0);
            m.rank(1, 0, true);
            m.setQueue(0, size);
            m.run(5);
            Checks.equal("beside 1 in a queue of " + size, m.batch(0, 7), size < 2 ? 0 : 1);
            Checks.equal("whether it stays at the second machine", m.machine(1, 0), size < 2 ? 0 : -1);
            m.run(1);
            Checks.equal("and an hour later", m.batch(0, 7), size < 2 ? 0 : 1);
            m.setQueue(0, 2);
            m.run(1);
            Checks.equal("with room it goes back", m.batch(0, 7), 1);
        }
    }

    /** "if the machine's wear is the limit or more, it needs a repair": when the batch leaves. */
    private static void wearAtTheLimitNeedsARepair() {
        for (int limit = 4; limit <= 8; limit++) {
            Millrace m = Shop.withMade(6);
            m.addMachine(1, 0, 0, limit, 9, -1);
            Shop.addPerson(m, 1);
            m.setStore(1, 0);
            m.setQueue(0, 1);
            m.make(1, 1, 9);
            m.run(1);
            m.make(1, 1, 0);
            m.rank(1, 0, true);
            m.run(8);
            Checks.equal("none while it stays, limit " + limit, m.machine(0, 5), 0);
            Checks.equal("its wear", m.machine(0, 3), 6);
            m.setStore(1, 9);
            m.setQueue(0, 9);
            m.run(1);
            Checks.equal("worn by 6 of " + limit, m.machine(0, 5), limit <= 6 ? 2 : 0);
            Checks.equal("its wear is not over", m.machine(0, 3), 6);
        }
    }

    /** "one hour of it is done; when all are, the wear is 0": behind the hour in which it begins, 1 to 9 hours. */
    private static void aRepairTakesItsHours() {
        for (int hours = 1; hours <= 9; hours++) {
            Millrace m = Shop.withMade(2);
            m.addMachine(1, 0, 0, 2, hours, -1);
            m.addPerson(0, 0, 12);
            m.setLevel(0, 0, 1);
            m.run(7);
            m.make(1, 1, 0);
            m.run(3);
            Checks.equal("it left in the hour 9", m.machine(0, 0), -1);
            Checks.equal("the repair begins in the same hour", m.machine(0, 5), 2);
            for (int hour = 1; hour < hours; hour++) {
                m.run(1);
                Checks.equal("hour " + hour + " of " + hours, m.machine(0, 5), 2);
                Checks.equal("the wear then", m.machine(0, 3), 2);
            }
            m.run(1);
            Checks.equal("all of " + hours, m.machine(0, 5), 0);
            Checks.equal("the wear is over", m.machine(0, 3), 0);
        }
    }

    /** "and it takes a piece, of which one can be taken, or none, it begins": not of promised ones; and just one. */
    private static void aRepairTakesOnePieceOnce() {
        for (int promised = 0; promised <= 2; promised++) {
            Millrace m = Shop.withMade(1);
            m.addMachine(1, 0, 0, 1, 3, 0);
            Shop.addPerson(m, 1);
            Shop.stocked(m, 0, 2);
            if (promised > 0) {
                m.order(0, promised, 0);
                m.promise(0);
            }
            m.make(1, 1, 0);
            m.run(2);
            Checks.equal("with " + promised + " of 2 promised", m.machine(0, 5), promised < 2 ? 2 : 1);
            Checks.equal("left", m.store(0, 0), promised < 2 ? 1 : 2);
            m.run(2);
            Checks.equal("an hour later it took no more", m.store(0, 0), promised < 2 ? 1 : 2);
            Checks.equal("the ledger", m.ledger(5), promised < 2 ? 10 : 0);
        }
        Millrace none = Shop.withMade(1);
        none.addMachine(1, 0, 0, 1, 1, 0);
        Shop.addPerson(none, 1);
        none.run(1);
        none.make(1, 1, 0);
        none.run(20);
        Checks.equal("without a piece it does not begin", none.machine(0, 5), 1);
        none.buy(0, 1);
        none.run(1);
        Checks.equal("with one it does", none.machine(0, 5), 2);
        Checks.equal("which is gone", none.batch(1, 3), 4);
        Checks.equal("and no parent of what was made", none.batch(0, 8), 0);
        none.run(1);
        Checks.equal("and it is over", none.machine(0, 5), 0);
    }

    /** "Machines that need a repair, by rising numbers": 1 piece for two of them. */
    private static void theLowestMachineGetsThePiece() {
        Millrace m = Shop.withMade(1);
        m.addMachine(1, 0, 0, 1, 9, 0);
        m.addMachine(1, 0, 0, 1, 9, 0);
        Shop.addPerson(m, 1);
        Shop.addPerson(m, 1);
        m.run(1);
        m.make(1, 1, 0);
        m.make(1, 1, 0);
        m.run(3);
        Checks.equal("both wait for a piece", m.machine(0, 5) * 10 + m.machine(1, 5), 11);
        m.buy(0, 1);
        m.run(2);
        Checks.equal("the first has begun", m.machine(0, 5) * 10 + m.machine(1, 5), 21);
        m.buy(0, 1);
        m.run(1);
        Checks.equal("both have begun", m.machine(0, 5) * 10 + m.machine(1, 5), 22);
    }

    /** A repair begins behind all that is done in the hour, though by a machine of a higher number. */
    private static void aRepairTakesWhatIsDoneInTheSameHour() {
        Millrace m = new Millrace();
        m.addOperation(0, 0, 0, 2);
        m.addOperation(1, 1, 1, 2);
        m.addMachine(1, 0, 0, 2, 1, 1);
        Shop.addMachine(m, 2);
        Shop.addPerson(m, 1);
        Shop.addPerson(m, 1);
        m.make(0, 1, 0);
        m.make(1, 1, 0);
        m.run(3);
        Checks.equal("done by the second machine", m.batch(1, 3), 4);
        Checks.equal("taken by the repair of the first", m.machine(0, 5), 2);
        Checks.equal("nothing is left of it", m.store(1, 0), 0);
    }

    /** All repairs come ahead of all that begins, though on a machine of a lower number: 1 piece for both. */
    private static void aRepairComesAheadOfWhatBegins() {
        Millrace m = Shop.withBought();
        m.addLine(1, 0, 1, -1);
        m.addOperation(1, 0, 0, 1);
        m.addOperation(2, 1, 0, 9);
        Shop.addMachine(m, 1);
        m.addMachine(2, 0, 0, 1, 3, 0);
        Shop.addPerson(m, 1);
        Shop.addPerson(m, 1);
        m.make(2, 1, 0);
        m.run(2);
        m.recall(0);
        Checks.equal("the second machine needs a repair", m.machine(1, 5), 1);
        m.make(1, 1, 9);
        m.buy(0, 1);
        m.run(1);
        Checks.equal("it has the piece", m.machine(1, 5), 2);
        Checks.equal("the first machine takes nothing", m.machine(0, 0), -1);
        Checks.equal("as parts are lacking", m.why(1, 0), 6);
        m.buy(0, 1);
        m.run(1);
        Checks.equal("it takes the next piece", m.machine(0, 0), 1);
    }

    /** 3 pieces that cost 10: what the repair takes cost 3, rounded down, and 7 stay. */
    private static void aRepairTakesTheShareOfAPiece() {
        Millrace m = Shop.withMade(2);
        m.addMachine(1, 0, 5, 2, 1, 1);
        Shop.addPerson(m, 1);
        m.make(1, 3, 0);
        m.run(2);
        Checks.equal("it costs 5 by now", m.batch(0, 2), 5);
        m.run(1);
        Checks.equal("of which the repair took", m.ledger(5), 3);
        Checks.equal("the rest", m.batch(0, 2), 7);
        Checks.equal("2 pieces", m.batch(0, 1), 2);
        Checks.equal("in the factory", m.ledger(2), 7);
    }
}
