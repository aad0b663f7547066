/** The sentences about orders, what is promised, shipped and late, that name a boundary case: promises 17 to 19, 33. */
final class OrdersEdgesTest {
    public static void main(String[] args) {
        anOrderIsPromisedUpToWhatItLacks();
        onlyWhatIsInStoreIsPromised();
        whatIsPromisedToOneIsNotForAnother();
        anOrderIsShippedWithAllItsPieces();
        anOrderIsShippedOnce();
        shippingTakesByRisingBatches();
        shippingTakesOnlyFromTheStore();
        shippingTakesAllOrPartOfABatch();
        shippingMakesRoom();
        anOrderIsLateBehindItsDueHour();
        theLastDueHour();
        whatIsShippedIsAsLateAsItWas();
        Checks.end("OrdersEdgesTest");
    }

    /** So many pieces of kind 0 in store, in batches of up to 20. */
    private static Millrace withPieces(int pieces) {
        Millrace m = Shop.withBought();
        m.setStore(0, 99);
        for (int left = pieces; left > 0; left -= 20) {
            m.buy(0, Math.min(left, 20));
        }
        m.run(1);
        return m;
    }

    /** "up to what it lacks": with 1 piece less than that, with just so many, with 1 more. */
    private static void anOrderIsPromisedUpToWhatItLacks() {
        for (int pieces : new int[] {1, 2, 19, 20}) {
            for (int there = pieces - 1; there <= pieces + 1; there++) {
                Millrace m = withPieces(there);
                m.order(0, pieces, 0);
                int due = Math.min(there, pieces);
                Checks.equal("promised of " + there, m.promise(0), due);
                Checks.equal("told of it", m.told(0, 3), due);
                Checks.equal("promised of the kind", m.store(0, 1), due);
                Checks.equal("it all stays in store", m.store(0, 0), there);
                Checks.equal("once more", m.promise(0), due);
                Shop.stocked(m, 0, 20);
                Checks.equal("when there are more", m.promise(0), pieces);
                Checks.equal("promised of the kind then", m.store(0, 1), pieces);
            }
        }
    }

    /** "Pieces in store that are not promised can be promised": what comes, waits or is made cannot. */
    private static void onlyWhatIsInStoreIsPromised() {
        Millrace m = Shop.everyState();
        int[] due = {4, 0, 0, 0, 0};
        for (int kind = 0; kind < due.length; kind++) {
            int order = m.order(kind, 20, 0);
            Checks.equal("promised of the kind " + kind, m.promise(order), due[kind]);
        }
        Millrace nothing = new Millrace();
        nothing.order(11, 1, 0);
        Checks.equal("of a kind that is nothing", nothing.promise(0), 0);
    }

    private static void whatIsPromisedToOneIsNotForAnother() {
        Millrace m = withPieces(5);
        m.order(0, 4, 0);
        m.order(0, 4, 0);
        m.order(0, 4, 0);
        Checks.equal("the second order, first", m.promise(1), 4);
        Checks.equal("then the first", m.promise(0), 1);
        Checks.equal("nothing is left for the third", m.promise(2), 0);
        Checks.equal("all is promised", m.store(0, 1), 5);
        m.ship(1);
        Checks.equal("what was shipped is not there for another", m.promise(0), 1);
        Checks.equal("promised then", m.store(0, 1), 1);
        Checks.equal("in store then", m.store(0, 0), 1);
    }

    /** "An order that was promised all its pieces can be shipped": not with 1 less, though they are in store. */
    private static void anOrderIsShippedWithAllItsPieces() {
        for (int pieces : new int[] {1, 2, 20}) {
            Twins oneLess = new Twins(() -> {
                Millrace m = withPieces(pieces - 1);
                m.order(0, pieces, 0);
                m.promise(0);
                Shop.stocked(m, 0, 5);
                return m;
            });
            oneLess.refuses(Twins.STATE, "ship", 0);
            Twins all = new Twins(() -> {
                Millrace m = withPieces(pieces);
                m.order(0, pieces, 0);
                m.promise(0);
                return m;
            });
            Checks.equal("nothing is left", all.takes("ship", 0).store(0, 0), 0);
        }
        Twins notPromised = new Twins(() -> {
            Millrace m = withPieces(9);
            m.order(0, 1, 0);
            return m;
        });
        notPromised.refuses(Twins.STATE, "ship", 0);
    }

    /** "if it was shipped": then neither once more, nor can more be promised, whatever there is, hours later, too. */
    private static void anOrderIsShippedOnce() {
        Twins twins = new Twins(() -> {
            Millrace m = withPieces(9);
            m.order(0, 2, 0);
            m.promise(0);
            m.ship(0);
            m.run(5);
            return m;
        });
        twins.refuses(Twins.STATE, "ship", 0);
        twins.refuses(Twins.STATE, "promise", 0);
    }

    /** "they are taken by rising batches": whichever of them were there when they were promised. */
    private static void shippingTakesByRisingBatches() {
        Millrace m = new Millrace();
        m.setBought(0, 1, 2);
        m.buy(0, 2);
        m.buy(0, 2);
        m.late(0, 1);
        m.run(3);
        m.order(0, 2, 0);
        Checks.equal("promised when only the second batch is there", m.promise(0), 2);
        m.run(1);
        m.ship(0);
        Checks.equal("the first one is taken", m.parent(2, 0), 0);
        Checks.equal("and no other", m.parent(2, 1), -1);
        Checks.equal("the second one stays", m.batch(1, 1), 2);
    }

    /** "from batches in store": not from lower ones that come, wait, are on a machine, or were scrapped. */
    private static void shippingTakesOnlyFromTheStore() {
        Millrace m = new Millrace();
        m.setBought(0, 10, 0);
        m.addOperation(1, 0, 0, 9);
        m.addOperation(2, 1, 1, 9);
        Shop.addMachine(m, 3);
        Shop.addPerson(m, 1);
        m.setLevel(0, 1, 0);
        m.buy(0, 3);
        m.late(0, 30);
        m.buy(0, 3);
        m.recall(1);
        m.make(1, 3, 0);
        m.make(2, 3, 0);
        m.buy(0, 3);
        m.run(1);
        m.order(0, 2, 0);
        m.order(1, 1, 0);
        m.order(2, 1, 0);
        Checks.equal("of what is in store", m.promise(0), 2);
        Checks.equal("not of what is on a machine", m.promise(1), 0);
        Checks.equal("not of what waits", m.promise(2), 0);
        m.ship(0);
        int[] left = {3, 3, 3, 3, 1};
        for (int batch = 0; batch < left.length; batch++) {
            Checks.equal("pieces of the batch " + batch, m.batch(batch, 1), left[batch]);
        }
        Checks.equal("its parent", m.parent(5, 0), 4);
        Checks.equal("its only one", m.parent(5, 1), -1);
        Checks.equal("its cost", m.batch(5, 2), 20);
    }

    /** "from each what it has": of batches of 2, 3 and 1 pieces. */
    private static void shippingTakesAllOrPartOfABatch() {
        int[][] left = {{1, 3, 1}, {0, 3, 1}, {0, 2, 1}, {0, 1, 1}, {0, 0, 1}, {0, 0, 0}};
        int[] parents = {1, 1, 2, 2, 2, 3};
        for (int pieces = 1; pieces <= 6; pieces++) {
            Millrace m = Shop.withBought();
            m.buy(0, 2);
            m.buy(0, 3);
            m.buy(0, 1);
            m.run(1);
            m.order(0, pieces, 0);
            m.promise(0);
            Checks.equal("the batch that is made", m.ship(0), 3);
            for (int batch = 0; batch < 3; batch++) {
                int due = left[pieces - 1][batch];
                Checks.equal(pieces + " taken, left in " + batch, m.batch(batch, 1), due);
                Checks.equal(pieces + " taken, the state of " + batch, m.batch(batch, 3), due == 0 ? 4 : 3);
                Checks.equal(pieces + " taken, the cost of " + batch, m.batch(batch, 2), 10 * due);
                Checks.equal(pieces + " taken, a parent", m.parent(3, batch), batch < parents[pieces - 1] ? batch : -1);
            }
            Checks.equal("its parents", m.batch(3, 8), parents[pieces - 1]);
            Checks.equal("its pieces", m.batch(3, 1), pieces);
            Checks.equal("its cost", m.batch(3, 2), 10 * pieces);
        }
    }

    /** What is shipped is in no store any more. */
    private static void shippingMakesRoom() {
        Millrace m = withPieces(20);
        m.setStore(0, 20);
        m.buy(0, 3);
        m.order(0, 2, 0);
        m.order(0, 1, 0);
        m.promise(0);
        m.promise(1);
        m.ship(0);
        m.run(1);
        Checks.equal("2 pieces less leave no room for 3", m.batch(1, 3), 0);
        m.ship(1);
        m.run(1);
        Checks.equal("3 pieces less do", m.batch(1, 3), 3);
    }

    private static void late(Millrace m, int order, int due) {
        Checks.equal("late in the hour " + m.hour() + ", due " + m.told(order, 2), m.told(order, 5), due);
    }

    /** "how many hours late it ... is by now, 0 if it is not": in the due hour it is not, an hour later it is. */
    private static void anOrderIsLateBehindItsDueHour() {
        Millrace m = new Millrace();
        m.order(0, 1, 0);
        m.order(0, 1, 1);
        m.order(0, 1, 5);
        for (int hour = 0; hour <= 7; hour++) {
            late(m, 0, hour);
            late(m, 1, Math.max(0, hour - 1));
            late(m, 2, Math.max(0, hour - 5));
            m.run(1);
        }
    }

    /** "due: 0 to 999: the hour". */
    private static void theLastDueHour() {
        Millrace m = new Millrace();
        m.order(0, 1, 999);
        Shop.pass(m, 999);
        late(m, 0, 0);
        m.run(1);
        late(m, 0, 1);
        Shop.pass(m, 1000);
        Checks.equal("the hour", m.hour(), 2000);
        late(m, 0, 1001);
    }

    /** "how many hours late it was shipped": and not how many it would be by now. */
    private static void whatIsShippedIsAsLateAsItWas() {
        for (int due = 2; due <= 6; due++) {
            Millrace m = withPieces(1);
            m.order(0, 1, due);
            m.promise(0);
            m.run(3);
            late(m, 0, Math.max(0, 4 - due));
            m.ship(0);
            late(m, 0, Math.max(0, 4 - due));
            m.run(20);
            late(m, 0, Math.max(0, 4 - due));
        }
    }
}
