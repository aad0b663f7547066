/** Promises 17 to 19: orders, what is promised to them, and what is shipped. */
final class OrdersTest {
    public static void main(String[] args) {
        orderTakesAnOrder();
        orderRefuses();
        promiseGivesWhatIsThere();
        promisedPiecesAreNotTaken();
        promiseRefuses();
        shipTakesByRisingBatches();
        shipTellsOfTheBatch();
        shipRefuses();
        Checks.end("OrdersTest");
    }

    private static void orderTakesAnOrder() {
        Millrace m = new Millrace();
        Checks.equal("its number", m.order(11, 20, 999), 0);
        Checks.equal("the next", m.order(0, 1, 0), 1);
        int[] due = {11, 20, 999, 0, -1, 0};
        for (int what = 0; what <= 5; what++) {
            Checks.equal("order 0, " + what, m.told(0, what), due[what]);
        }
        for (int number = 2; number < 10; number++) {
            Checks.equal("order", m.order(3, 2, 1), number);
        }
        Checks.noState("eleventh order", m, () -> m.order(0, 1, 0));
        Checks.noArgument("eleventh order, pieces 0", m, () -> m.order(0, 0, 0));
    }

    private static void orderRefuses() {
        Millrace m = new Millrace();
        Checks.noIndex("kind 12", m, () -> m.order(12, 0, 0));
        Checks.noIndex("kind -1", m, () -> m.order(-1, 1, 0));
        Checks.noArgument("pieces 0", m, () -> m.order(0, 0, 0));
        Checks.noArgument("pieces 21", m, () -> m.order(0, 21, 0));
        Checks.noArgument("due -1", m, () -> m.order(0, 1, -1));
        Checks.noArgument("due 1000", m, () -> m.order(0, 1, 1000));
    }

    private static void promiseGivesWhatIsThere() {
        Millrace m = Shop.withBought();
        m.order(0, 5, 0);
        m.order(0, 4, 0);
        m.order(1, 4, 0);
        Checks.equal("nothing there", m.promise(0), 0);
        Shop.stocked(m, 0, 3);
        Checks.equal("all that is there", m.promise(0), 3);
        Checks.equal("nothing left for the other", m.promise(1), 0);
        Checks.equal("nothing of another kind", m.promise(2), 0);
        Checks.equal("promised pieces", m.store(0, 1), 3);
        Checks.equal("pieces in store", m.store(0, 0), 3);
        Shop.stocked(m, 0, 4);
        Checks.equal("what it lacked, and no more", m.promise(0), 5);
        Checks.equal("the rest for the other", m.promise(1), 2);
        Checks.equal("once more, nothing more", m.promise(0), 5);
        Checks.equal("all is promised", m.store(0, 1), 7);
        Checks.equal("told", m.told(1, 3), 2);
    }

    private static void promisedPiecesAreNotTaken() {
        Millrace m = Shop.working(1);
        m.addLine(2, 0, 2, -1);
        m.addOperation(2, 0, 0, 1);
        Shop.stocked(m, 0, 5);
        m.order(0, 2, 0);
        m.promise(0);
        m.make(2, 2, 0);
        Checks.equal("3 of 4 parts are free", m.why(1, 0), 6);
        m.run(2);
        Checks.equal("it does not begin", m.batch(1, 3), 1);
        Checks.equal("nothing was taken", m.store(0, 0), 5);
        m.split(1, 1);
        m.run(1);
        Checks.equal("2 of 2 parts are free", m.batch(1, 3), 2);
        Checks.equal("3 are left", m.store(0, 0), 3);
        m.ship(0);
        Checks.equal("the promised ones are there to be shipped", m.store(0, 0), 1);
    }

    private static void promiseRefuses() {
        Millrace m = Shop.withBought();
        m.order(0, 1, 0);
        Checks.noIndex("order 1", m, () -> m.promise(1));
        Checks.noIndex("order -1", m, () -> m.promise(-1));
        Shop.stocked(m, 0, 2);
        m.promise(0);
        m.ship(0);
        Checks.noState("it was shipped", m, () -> m.promise(0));
    }

    private static void shipTakesByRisingBatches() {
        Millrace m = new Millrace();
        m.setBought(0, 10, 0);
        m.buy(0, 2);
        m.buy(0, 3);
        m.buy(0, 4);
        m.run(1);
        m.order(0, 4, 0);
        m.order(0, 4, 0);
        m.promise(1);
        m.promise(0);
        Checks.equal("the batch that is made", m.ship(1), 3);
        int[] pieces = {0, 1, 4, 4};
        int[] costs = {0, 10, 40, 40};
        int[] states = {4, 3, 3, 6};
        for (int batch = 0; batch < 4; batch++) {
            Checks.equal("pieces of " + batch, m.batch(batch, 1), pieces[batch]);
            Checks.equal("cost of " + batch, m.batch(batch, 2), costs[batch]);
            Checks.equal("what " + batch + " is", m.batch(batch, 3), states[batch]);
        }
        Checks.equal("two parents", m.batch(3, 8), 2);
        Checks.equal("the lower one", m.parent(3, 0), 0);
        Checks.equal("the higher one", m.parent(3, 1), 1);
        Checks.equal("pieces in store", m.store(0, 0), 5);
        Checks.equal("promised to the other order", m.store(0, 1), 4);
        Checks.equal("shipped, in the ledger", m.ledger(4), 40);
        Checks.equal("the other order", m.ship(0), 4);
        Checks.equal("its parents", m.parent(4, 0), 1);
        Checks.equal("its parents", m.parent(4, 1), 2);
        Checks.equal("nothing is promised any more", m.store(0, 1), 0);
        Checks.equal("1 piece is left", m.store(0, 0), 1);
    }

    private static void shipTellsOfTheBatch() {
        Millrace m = Shop.working(1);
        m.addOperation(1, 3, 0, 1);
        m.make(1, 2, 5);
        m.order(1, 2, 3);
        m.run(7);
        m.promise(0);
        Checks.equal("4 hours late by now", m.told(0, 5), 4);
        Checks.equal("its batch", m.ship(0), 1);
        int[] due = {1, 2, 0, 6, 2, 0, 0, 0, 1, -1};
        for (int what = 0; what <= 9; what++) {
            Checks.equal("the shipped batch, " + what, m.batch(1, what), due[what]);
        }
        m.run(9);
        Checks.equal("it was 4 hours late", m.told(0, 5), 4);
        Checks.equal("its batch is told", m.told(0, 4), 1);
        Checks.equal("it keeps what it was promised", m.told(0, 3), 2);
    }

    private static void shipRefuses() {
        Millrace m = Shop.withBought();
        m.order(0, 2, 0);
        m.order(0, 1, 0);
        Checks.noIndex("order 2", m, () -> m.ship(2));
        Checks.noIndex("order -1", m, () -> m.ship(-1));
        Checks.noState("nothing is promised", m, () -> m.ship(0));
        Shop.stocked(m, 0, 1);
        m.promise(0);
        Checks.noState("1 of 2 pieces is promised", m, () -> m.ship(0));
        Shop.stocked(m, 0, 2);
        m.promise(0);
        m.promise(1);
        m.ship(0);
        Checks.noState("it was shipped", m, () -> m.ship(0));
        Shop.fill(m, 60);
        Checks.noState("60 batches were made", m, () -> m.ship(1));
    }
}
