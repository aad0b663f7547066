import java.util.function.Supplier;

/** The sentences about batches, how they are split, joined and recalled, that name a boundary case. */
final class BatchesEdgesTest {
    public static void main(String[] args) {
        theShopHasABatchOfEveryState();
        aBoughtBatchComesInItsHour();
        aLateBatchComesInItsHour();
        onlyWhatComesCanBeLate();
        onlyWhatWaitsIsRanked();
        whatIsTakenCostsItsShareRoundedDown();
        theLastPieceTakesTheRestOfTheCost();
        aBatchIsGoneWhenNoPieceIsLeft();
        onlyWhatWaitsIsSplit();
        theQueueInWhichItWaitsNeedsRoom();
        theOnlyParentOfASplitOffIsTheOtherOne();
        onlyWhatWaitsIsJoined();
        onlyTheSameKindAndOperationIsJoined();
        noneOfTheJoinedIsFrozen();
        whatIsJoinedHasTheGreaterPriority();
        whatIsJoinedMayHaveMoreThanTwentyPieces();
        Checks.end("BatchesEdgesTest");
    }

    private static void told(String what, Millrace m, int batch, int... due) {
        for (int i = 0; i < due.length; i++) {
            Checks.equal(what + ", batch " + batch + ", " + i, m.batch(batch, i), due[i]);
        }
    }

    /** "0 coming, 1 waiting, 2 on a machine, 3 in store, 4 gone into others, 5 scrapped, or 6 shipped". */
    private static void theShopHasABatchOfEveryState() {
        Millrace m = Shop.everyState();
        Checks.equal("batches", m.batches(), 7);
        told("coming", m, 0, 2, 4, 20, 0, 0, 0, 0, 0, 0, 30);
        told("waiting", m, 1, 3, 4, 0, 1, 0, 4, 0, 0, 0, -1);
        told("on a machine", m, 2, 4, 4, 0, 2, 0, 5, 0, 0, 0, -1);
        told("in store", m, 3, 0, 4, 12, 3, 0, 0, 0, 0, 0, 0);
        told("gone", m, 4, 1, 0, 0, 4, 0, 0, 0, 0, 0, 0);
        told("scrapped", m, 5, 3, 4, 0, 5, 0, 6, 0, 0, 0, -1);
        told("shipped", m, 6, 1, 4, 28, 6, 0, 0, 0, 0, 1, -1);
        int[] ledger = {60, 0, 32, 0, 28, 0};
        for (int what = 0; what < ledger.length; what++) {
            Checks.equal("ledger, " + what, m.ledger(what), ledger[what]);
        }
    }

    private static void comes(Millrace m, int batch, int hour) {
        Checks.equal("the hour at which it comes", m.batch(batch, 9), hour);
        Shop.pass(m, hour - m.hour());
        Checks.equal("coming, ahead of the hour " + hour, m.batch(batch, 3), 0);
        Checks.equal("not in store", m.store(0, 0), 0);
        m.run(1);
        Checks.equal("in store, behind the hour " + hour, m.batch(batch, 3), 3);
        Checks.equal("the hour at which it came", m.batch(batch, 9), hour);
        m.run(3);
        Checks.equal("the hour at which it came first", m.batch(batch, 9), hour);
    }

    /** "hours: 0 to 30: its time to come": in the hour itself, an hour later, 30 hours later. */
    private static void aBoughtBatchComesInItsHour() {
        for (int hours : new int[] {0, 1, 2, 29, 30}) {
            for (int start : new int[] {0, 1, 23, 40}) {
                Millrace m = new Millrace();
                m.setBought(0, 1, hours);
                Shop.pass(m, start);
                comes(m, m.buy(0, 1), start + hours);
            }
        }
    }

    /** "Returns the hour at which it comes then": 1 to 30 hours later than it would have, once or more often. */
    private static void aLateBatchComesInItsHour() {
        for (int hours : new int[] {1, 2, 29, 30}) {
            Millrace m = new Millrace();
            m.setBought(0, 1, 3);
            m.run(5);
            m.buy(0, 1);
            Checks.equal("once", m.late(0, hours), 8 + hours);
            m.run(1);
            Checks.equal("twice", m.late(0, hours), 8 + 2 * hours);
            comes(m, 0, 8 + 2 * hours);
        }
        Millrace now = new Millrace();
        now.setBought(0, 1, 2);
        now.buy(0, 1);
        now.run(2);
        Checks.equal("in the hour in which it would come", now.late(0, 1), 3);
        comes(now, 0, 3);
    }

    /** "if it is not coming". */
    private static void onlyWhatComesCanBeLate() {
        Twins twins = new Twins(Shop::everyState);
        Checks.equal("coming", twins.takes("late", 0, 30).batch(0, 9), 60);
        for (int batch = 1; batch < 7; batch++) {
            twins.refuses(Twins.STATE, "late", batch, 1);
        }
    }

    /** "if it does not wait"; one that is frozen waits, and may be set again. */
    private static void onlyWhatWaitsIsRanked() {
        Twins twins = new Twins(Shop::everyState);
        for (int batch = 0; batch < 7; batch++) {
            if (batch != 1) {
                twins.refuses(Twins.STATE, "rank", batch, 0, 0);
                twins.refuses(Twins.STATE, "rank", batch, 9, 1);
            }
        }
        Millrace m = Shop.everyState();
        boolean[] frozen = {true, true, false, false, true};
        boolean before = false;
        for (int i = 0; i < frozen.length; i++) {
            Checks.equal("whether it was frozen", m.rank(1, 9 - i, frozen[i]) ? 1 : 0, before ? 1 : 0);
            before = frozen[i];
            told("set", m, 1, 3, 4, 0, 1, 0, 9 - i, before ? 1 : 0);
        }
    }

    /** Batch 0 of that kind, which cost that much for each of some hours, and waits for its second operation. */
    private static Millrace halfDone(int pieces, int hours, int cost) {
        Millrace m = new Millrace();
        m.addOperation(0, 0, 0, hours);
        m.addOperation(0, 1, 0, 1);
        m.addMachine(1, 0, cost, 50, 1, -1);
        Shop.addPerson(m, 1);
        m.make(0, pieces, 3);
        m.run(hours + 1);
        return m;
    }

    /** "its cost, times these, divided by its pieces, rounded down". */
    private static void whatIsTakenCostsItsShareRoundedDown() {
        // pieces, hours, cost of an hour, pieces split off, their cost, the cost of the rest
        int[][] rows = {
            {3, 2, 5, 1, 3, 7}, {3, 2, 5, 2, 6, 4}, {4, 1, 7, 1, 1, 6}, {4, 1, 7, 2, 3, 4}, {4, 1, 7, 3, 5, 2},
            {3, 1, 1, 1, 0, 1}, {3, 1, 1, 2, 0, 1}, {3, 3, 3, 1, 3, 6}, {3, 3, 3, 2, 6, 3}, {2, 1, 0, 1, 0, 0},
            {20, 9, 9, 19, 76, 5}, {20, 9, 9, 1, 4, 77}, {2, 9, 9, 1, 40, 41},
        };
        for (int[] row : rows) {
            Millrace m = halfDone(row[0], row[1], row[2]);
            told("ahead of the split", m, 0, 0, row[0], row[4] + row[5], 1, 1);
            m.split(0, row[3]);
            told("split off", m, 1, 0, row[3], row[4], 1, 1, 3, 0, 0, 1, -1);
            told("the rest", m, 0, 0, row[0] - row[3], row[5], 1, 1, 3, 0, 0, 0, -1);
            m.join(0, 1);
            told("joined again", m, 2, 0, row[0], row[4] + row[5], 1, 1);
        }
    }

    /** 3 pieces in store that cost 10 are taken for 3, 3 and 4. */
    private static void theLastPieceTakesTheRestOfTheCost() {
        Millrace m = Shop.withMade(2);
        m.addMachine(1, 0, 5, 50, 1, -1);
        Shop.addPerson(m, 1);
        m.make(1, 3, 0);
        m.run(3);
        int[] due = {3, 3, 4};
        for (int order = 0; order < 3; order++) {
            m.order(1, 1, 0);
            m.promise(order);
            Checks.equal("the cost of the piece " + order, m.batch(m.ship(order), 2), due[order]);
        }
        told("nothing is left", m, 0, 1, 0, 0, 4);
        Checks.equal("all of it was shipped", m.ledger(4), 10);
    }

    /** "It is gone into others, when no piece is left": 2 of 3 leave it in store, 3 of 3 do not. */
    private static void aBatchIsGoneWhenNoPieceIsLeft() {
        for (int pieces = 1; pieces <= 3; pieces++) {
            Millrace m = Shop.withBought();
            Shop.stocked(m, 0, 3);
            m.order(0, pieces, 0);
            m.promise(0);
            m.ship(0);
            told(pieces + " of 3 taken", m, 0, 0, 3 - pieces, 10 * (3 - pieces), pieces == 3 ? 4 : 3);
        }
    }

    /** "if it does not wait, is frozen"; the pieces are looked at first. */
    private static void onlyWhatWaitsIsSplit() {
        Twins twins = new Twins(Shop::everyState);
        for (int batch = 0; batch < 7; batch++) {
            for (int pieces = 1; pieces < 4; pieces++) {
                if (batch == 1) {
                    Checks.equal("the new one", twins.takes("split", batch, pieces).batch(7, 1), pieces);
                } else {
                    twins.refuses(batch == 4 ? Twins.ARGUMENT : Twins.STATE, "split", batch, pieces);
                }
            }
        }
        Twins frozen = new Twins(() -> {
            Millrace m = Shop.everyState();
            m.rank(1, 4, true);
            return m;
        });
        frozen.refuses(Twins.STATE, "split", 1, 1);
        Millrace m = Shop.everyState();
        m.rank(1, 4, true);
        m.rank(1, 4, false);
        Checks.equal("it was frozen, and is no more", m.split(1, 1), 7);
        Checks.equal("nor is the new one", m.batch(7, 6), 0);
    }

    /** A batch that waits for its second operation, of class 1, beside none of class 0; the queues of these sizes. */
    private static Millrace waitingForClassOne(int zero, int one) {
        Millrace m = new Millrace();
        m.addOperation(0, 0, 0, 1);
        m.addOperation(0, 1, 0, 1);
        Shop.addMachine(m, 1);
        Shop.addPerson(m, 1);
        m.make(0, 4, 0);
        m.run(2);
        m.setQueue(0, zero);
        m.setQueue(1, one);
        return m;
    }

    /** "its queue has no room": that of the operation for which it waits. */
    private static void theQueueInWhichItWaitsNeedsRoom() {
        Twins full = new Twins(() -> waitingForClassOne(9, 1));
        full.refuses(Twins.STATE, "split", 0, 1);
        Twins room = new Twins(() -> waitingForClassOne(0, 2));
        Checks.equal("both wait for class 1", room.takes("split", 0, 1).queue(1), 2);
    }

    /** "a new batch ... whose only parent is that": not what the other one has for parents. */
    private static void theOnlyParentOfASplitOffIsTheOtherOne() {
        Millrace m = Shop.withBought();
        m.addLine(1, 0, 1, -1);
        m.addOperation(1, 0, 0, 1);
        m.addOperation(1, 1, 0, 1);
        Shop.addMachine(m, 1);
        Shop.addPerson(m, 1);
        m.buy(0, 2);
        m.buy(0, 2);
        m.make(1, 4, 0);
        m.run(2);
        told("the other one has two", m, 2, 1, 4, 40, 1, 1, 0, 0, 0, 2);
        m.split(2, 1);
        told("it has one", m, 3, 1, 1, 10, 1, 1, 0, 0, 0, 1);
        Checks.equal("which is the other one", m.parent(3, 0), 2);
        Checks.equal("and that is all", m.parent(3, 1), -1);
        m.split(3 - 1, 1);
        Checks.equal("the next one, too", m.parent(4, 0), 2);
        Checks.equal("both bought ones are its origins", m.origin(3, 0) * 10 + m.origin(3, 1), 1);
        Checks.equal("and no more", m.origin(3, 2), -1);
    }

    /** All of kind 1 and its operation 0: 0 on the machine, 1 waits, 2 scrapped, 3 and 4 gone into 5, which waits. */
    private static Millrace sameOperation() {
        Millrace m = Shop.working(9);
        m.make(1, 2, 9);
        for (int i = 1; i < 5; i++) {
            m.make(1, 2, 0);
        }
        m.run(1);
        m.recall(2);
        m.join(3, 4);
        return m;
    }

    /** "Batches that wait can be ... joined": neither the one nor the other may be anything else. */
    private static void onlyWhatWaitsIsJoined() {
        Twins twins = new Twins(BatchesEdgesTest::sameOperation);
        for (int other : new int[] {0, 2, 3, 4}) {
            Checks.equal("the operation is the same", sameOperation().batch(other, 4), 0);
            twins.refuses(Twins.STATE, "join", 1, other);
            twins.refuses(Twins.STATE, "join", other, 1);
        }
        Checks.equal("both wait", twins.takes("join", 1, 5).batch(6, 1), 6);
        Checks.equal("both wait", twins.takes("join", 5, 1).batch(6, 1), 6);
        Twins states = new Twins(Shop::everyState);
        for (int other : new int[] {0, 2, 3, 4, 5, 6}) {
            states.refuses(Twins.STATE, "join", 1, other);
            states.refuses(Twins.STATE, "join", other, 1);
        }
    }

    /** "if they are of the same kind, wait for the same operation": the same class is not enough. */
    private static void onlyTheSameKindAndOperationIsJoined() {
        Supplier<Millrace> shop = () -> {
            Millrace m = new Millrace();
            m.addOperation(0, 0, 0, 1);
            m.addOperation(0, 0, 0, 1);
            m.addOperation(1, 0, 0, 1);
            Shop.addMachine(m, 1);
            Shop.addPerson(m, 1);
            m.make(0, 1, 9);
            m.run(1);
            m.setLevel(0, 0, 0);
            m.run(1);
            m.make(0, 1, 9);
            m.make(1, 1, 9);
            m.make(1, 1, 9);
            return m;
        };
        Checks.equal("waits for its second operation", shop.get().batch(0, 4), 1);
        Checks.equal("all wait for the same class", shop.get().queue(0), 4);
        Twins twins = new Twins(shop);
        twins.refuses(Twins.STATE, "join", 0, 1);
        twins.refuses(Twins.STATE, "join", 1, 0);
        twins.refuses(Twins.STATE, "join", 1, 2);
        twins.refuses(Twins.STATE, "join", 3, 1);
        twins.takes("join", 3, 2);
    }

    /** "and none of them is frozen": not the one, not the other, not both. */
    private static void noneOfTheJoinedIsFrozen() {
        for (int frozen = 0; frozen < 4; frozen++) {
            int bits = frozen;
            Twins twins = new Twins(() -> {
                Millrace m = Shop.withMade(1);
                m.make(1, 1, 0);
                m.make(1, 1, 0);
                m.rank(0, 0, (bits & 1) != 0);
                m.rank(1, 0, (bits & 2) != 0);
                return m;
            });
            if (frozen == 0) {
                Checks.equal("what is joined is not frozen", twins.takes("join", 0, 1).batch(2, 6), 0);
            } else {
                twins.refuses(Twins.STATE, "join", 0, 1);
                twins.refuses(Twins.STATE, "join", 1, 0);
            }
        }
    }

    /** "joining makes a new batch of both, its parents, with the greater priority". */
    private static void whatIsJoinedHasTheGreaterPriority() {
        int[][] priorities = {{0, 9, 9}, {9, 0, 9}, {5, 5, 5}, {4, 5, 5}, {5, 4, 5}, {0, 0, 0}};
        for (int[] row : priorities) {
            for (int first = 0; first < 2; first++) {
                Millrace m = Shop.withMade(1);
                m.make(1, 1, row[0]);
                m.make(1, 2, row[1]);
                m.join(first, 1 - first);
                told("joined", m, 2, 1, 3, 0, 1, 0, row[2], 0, 0, 2, -1);
                Checks.equal("the lower parent", m.parent(2, 0), 0);
                Checks.equal("the higher parent", m.parent(2, 1), 1);
                Checks.equal("no third one", m.parent(2, 2), -1);
            }
        }
    }

    /** A batch is begun with 20 pieces at most, but what is joined may have more, and is split as any other. */
    private static void whatIsJoinedMayHaveMoreThanTwentyPieces() {
        Millrace m = Shop.working(1);
        for (int i = 0; i < 3; i++) {
            m.make(1, 20, 0);
        }
        m.join(0, 1);
        m.join(2, 3);
        Checks.equal("60 pieces", m.batch(4, 1), 60);
        Checks.noArgument("60 of 60 pieces", m, () -> m.split(4, 60));
        m.split(4, 59);
        Checks.equal("59 pieces", m.batch(5, 1), 59);
        m.join(4, 5);
        m.setStore(1, 59);
        m.run(3);
        Checks.equal("no room for 60 in 59", m.batch(6, 3), 2);
        m.setStore(1, 60);
        m.run(1);
        Checks.equal("room for 60", m.store(1, 0), 60);
        Millrace many = Shop.withMade(1);
        many.make(1, 20, 0);
        for (int batch = 1; batch < 21; batch += 2) {
            many.make(1, 20, 0);
            many.join(batch - 1, batch);
        }
        Checks.equal("220 pieces", many.batch(20, 1), 220);
        Millrace parts = Shop.working(1);
        parts.addLine(2, 0, 1, -1);
        parts.addOperation(2, 0, 0, 1);
        parts.setStore(0, 40);
        for (int i = 0; i < 2; i++) {
            parts.buy(0, 20);
            parts.make(2, 20, 0);
        }
        parts.join(1, 3);
        parts.run(1);
        Checks.equal("40 pieces take 40 parts", parts.store(0, 0), 0);
        Checks.equal("and their cost", parts.batch(4, 2), 400);
    }
}
