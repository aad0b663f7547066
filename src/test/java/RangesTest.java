import java.util.function.Supplier;

/**
 * Every number that a call takes: the least and the greatest that the document allows are taken, those beside them and
 * the furthest ones are refused, and what is refused changes nothing.
 */
final class RangesTest {
    private static final String INDEX = Twins.INDEX;
    private static final String ARGUMENT = Twins.ARGUMENT;
    private static final int MOST = Integer.MAX_VALUE;

    public static void main(String[] args) {
        setBoughtTakesItsRanges();
        addLineTakesItsRanges();
        addLineTakesLowerKinds();
        addOperationTakesItsRanges();
        sizesTakeTheirRanges();
        addMachineTakesItsRanges();
        addPersonTakesItsRanges();
        setLevelTakesItsRanges();
        buyAndLateTakeTheirRanges();
        makeTakesItsRanges();
        rankTakesItsRanges();
        splitTakesItsRanges();
        joinTakesItsRanges();
        recallTakesItsRange();
        ordersTakeTheirRanges();
        runTakesItsRange();
        viewsOfBatchesTakeTheirRanges();
        viewsOfTheFloorTakeTheirRanges();
        viewsOfKindsTakeTheirRanges();
        viewsOfOrdersTakeTheirRanges();
        whatIsNotThereIsRefused();
        Checks.end("RangesTest");
    }

    /** In a call whose other arguments are right, the one at that place may be least to most. */
    private static void range(Supplier<Millrace> shop, String due, int place, int least, int most, String call,
            int... right) {
        Twins twins = new Twins(shop);
        twins.takes(call, with(right, place, least));
        twins.takes(call, with(right, place, most));
        refusedBeside(twins, due, place, least, most, call, right);
    }

    private static void refusedBeside(Twins twins, String due, int place, int least, int most, String call,
            int... right) {
        for (int value : new int[] {Integer.MIN_VALUE, least - 1, most + 1, Integer.MAX_VALUE}) {
            if (value < least || value > most) {
                twins.refuses(due, call, with(right, place, value));
            }
        }
    }

    private static int[] with(int[] arguments, int place, int value) {
        int[] changed = arguments.clone();
        changed[place] = value;
        return changed;
    }

    private static Millrace allBought() {
        Millrace m = new Millrace();
        for (int kind = 0; kind < 12; kind++) {
            m.setBought(kind, kind + 1, 2);
        }
        return m;
    }

    private static Millrace allMade() {
        Millrace m = new Millrace();
        for (int kind = 0; kind < 12; kind++) {
            m.addOperation(kind, kind % 4, 0, 1);
        }
        Shop.addMachine(m, 15);
        Shop.addPerson(m, 2);
        return m;
    }

    /** Three batches that wait, of 2, 3 and 20 pieces. */
    private static Millrace waiting() {
        Millrace m = Shop.working(3);
        m.make(1, 2, 4);
        m.make(1, 3, 5);
        m.make(1, 20, 6);
        return m;
    }

    /** 60 batches, all coming. */
    private static Millrace sixty() {
        Millrace m = new Millrace();
        Shop.fill(m, 60);
        return m;
    }

    private static void setBoughtTakesItsRanges() {
        range(Millrace::new, INDEX, 0, 0, 11, "setBought", 5, 1, 0);
        range(Millrace::new, ARGUMENT, 1, 1, 99, "setBought", 5, 1, 0);
        range(Millrace::new, ARGUMENT, 2, 0, 30, "setBought", 5, 1, 0);
        range(RangesTest::allBought, ARGUMENT, 1, 1, 99, "setBought", 5, 1, 0);
        range(RangesTest::allBought, ARGUMENT, 2, 0, 30, "setBought", 5, 1, 0);
    }

    private static void addLineTakesItsRanges() {
        Twins twins = new Twins(Millrace::new);
        twins.takes("addLine", 1, 0, 1, -1);
        twins.takes("addLine", 11, 0, 1, -1);
        refusedBeside(twins, INDEX, 0, 0, 11, "addLine", 1, 0, 1, -1);
        refusedBeside(twins, INDEX, 1, 0, 11, "addLine", 11, 0, 1, -1);
        refusedBeside(twins, INDEX, 3, -1, 11, "addLine", 11, 0, 1, -1);
        range(Millrace::new, ARGUMENT, 2, 1, 3, "addLine", 11, 0, 1, -1);
    }

    /** "part: a lower kind"; "other: another lower kind, which stands in; -1 for none". */
    private static void addLineTakesLowerKinds() {
        Twins twins = new Twins(Millrace::new);
        for (int kind = 0; kind < 12; kind++) {
            for (int part = 0; part < 12; part++) {
                for (int other = -1; other < 12; other++) {
                    if (part < kind && other < kind && part != other) {
                        Millrace m = new Millrace();
                        Checks.equal("a line of lower kinds", m.addLine(kind, part, 1, other), 1);
                    } else if (kind % 5 == 0) {
                        twins.refuses(ARGUMENT, "addLine", kind, part, 1, other);
                    }
                }
            }
        }
    }

    private static void addOperationTakesItsRanges() {
        range(Millrace::new, INDEX, 0, 0, 11, "addOperation", 5, 0, 0, 1);
        range(Millrace::new, INDEX, 1, 0, 3, "addOperation", 5, 0, 0, 1);
        range(Millrace::new, INDEX, 2, 0, 3, "addOperation", 5, 0, 0, 1);
        range(Millrace::new, ARGUMENT, 3, 1, 9, "addOperation", 5, 0, 0, 1);
        range(RangesTest::allMade, ARGUMENT, 3, 1, 9, "addOperation", 5, 0, 0, 1);
    }

    private static void sizesTakeTheirRanges() {
        range(Shop::everyState, INDEX, 0, 0, 11, "setStore", 5, 7);
        range(Shop::everyState, ARGUMENT, 1, 0, 99, "setStore", 0, 7);
        range(Shop::everyState, INDEX, 0, 0, 3, "setQueue", 1, 7);
        range(Shop::everyState, ARGUMENT, 1, 0, 60, "setQueue", 0, 7);
    }

    private static void addMachineTakesItsRanges() {
        int[] least = {1, 0, 0, 1, 1};
        int[] most = {15, 5, 9, 50, 9};
        for (int place = 0; place < least.length; place++) {
            range(Shop::everyState, ARGUMENT, place, least[place], most[place], "addMachine", 1, 0, 0, 1, 1, -1);
        }
        range(Shop::everyState, INDEX, 5, -1, 11, "addMachine", 1, 0, 0, 1, 1, -1);
    }

    private static void addPersonTakesItsRanges() {
        range(Shop::everyState, ARGUMENT, 0, 0, 9, "addPerson", 0, 0, 1);
        range(Shop::everyState, ARGUMENT, 1, 0, 23, "addPerson", 0, 0, 1);
        range(Shop::everyState, ARGUMENT, 2, 1, 24, "addPerson", 0, 0, 1);
    }

    private static Millrace sixPeople() {
        Millrace m = Shop.withMade(1);
        for (int i = 0; i < 6; i++) {
            Shop.addPerson(m, 1);
            Shop.addMachine(m, 15);
        }
        return m;
    }

    /** Someone who is at work, and has 5 hours of the 8 for the level 2. */
    private static Millrace atWork() {
        Millrace m = Shop.working(9);
        m.make(1, 1, 0);
        m.make(1, 1, 0);
        m.run(6);
        return m;
    }

    private static void setLevelTakesItsRanges() {
        range(RangesTest::atWork, INDEX, 0, 0, 0, "setLevel", 0, 0, 1);
        range(RangesTest::atWork, INDEX, 1, 0, 3, "setLevel", 0, 0, 1);
        range(RangesTest::atWork, ARGUMENT, 2, 0, 3, "setLevel", 0, 0, 1);
        range(Shop::everyState, INDEX, 0, 0, 0, "setLevel", 0, 1, 1);
        range(RangesTest::sixPeople, INDEX, 0, 0, 5, "setLevel", 0, 1, 1);
        range(Shop::everyState, INDEX, 1, 0, 3, "setLevel", 0, 1, 1);
        range(Shop::everyState, ARGUMENT, 2, 0, 3, "setLevel", 0, 1, 1);
    }

    private static void buyAndLateTakeTheirRanges() {
        range(RangesTest::allBought, INDEX, 0, 0, 11, "buy", 5, 1);
        range(RangesTest::allBought, ARGUMENT, 1, 1, 20, "buy", 5, 1);
        range(RangesTest::sixty, INDEX, 0, 0, 59, "late", 0, 1);
        range(RangesTest::sixty, ARGUMENT, 1, 1, 30, "late", 0, 1);
    }

    private static void makeTakesItsRanges() {
        range(RangesTest::allMade, INDEX, 0, 0, 11, "make", 5, 1, 0);
        range(RangesTest::allMade, ARGUMENT, 1, 1, 20, "make", 5, 1, 0);
        range(RangesTest::allMade, ARGUMENT, 2, 0, 9, "make", 5, 1, 0);
    }

    private static void rankTakesItsRanges() {
        for (int frozen = 0; frozen < 2; frozen++) {
            range(RangesTest::waiting, INDEX, 0, 0, 2, "rank", 0, 1, frozen);
            range(RangesTest::waiting, ARGUMENT, 1, 0, 9, "rank", 0, 1, frozen);
        }
    }

    private static Millrace onePieceWaits() {
        Millrace m = Shop.working(3);
        m.make(1, 1, 4);
        return m;
    }

    /** "pieces: 1 or more, less than it has": of 20, of 3, and of 2 pieces; of 1 piece none can be split off. */
    private static void splitTakesItsRanges() {
        range(RangesTest::waiting, INDEX, 0, 0, 2, "split", 1, 1);
        range(RangesTest::waiting, ARGUMENT, 1, 1, 19, "split", 2, 1);
        range(RangesTest::waiting, ARGUMENT, 1, 1, 2, "split", 1, 1);
        range(RangesTest::waiting, ARGUMENT, 1, 1, 1, "split", 0, 1);
        Twins one = new Twins(RangesTest::onePieceWaits);
        for (int pieces = -1; pieces < 3; pieces++) {
            one.refuses(ARGUMENT, "split", 0, pieces);
        }
    }

    /** "If there is no such batch, of both"; "if both are the same". */
    private static void joinTakesItsRanges() {
        Twins twins = new Twins(RangesTest::waiting);
        for (int one = 0; one < 3; one++) {
            for (int two = 0; two < 3; two++) {
                if (one == two) {
                    twins.refuses(ARGUMENT, "join", one, two);
                } else {
                    twins.takes("join", one, two);
                }
            }
        }
        refusedBeside(twins, INDEX, 0, 0, 2, "join", 0, 1);
        refusedBeside(twins, INDEX, 1, 0, 2, "join", 1, 0);
    }

    private static void recallTakesItsRange() {
        range(Shop::everyState, INDEX, 0, 0, 6, "recall", 0);
        range(RangesTest::sixty, INDEX, 0, 0, 59, "recall", 0);
    }

    /** Ten orders, all promised and none shipped. */
    private static Millrace tenOrders() {
        Millrace m = Shop.withBought();
        for (int i = 0; i < 10; i++) {
            m.order(0, 2, i);
        }
        Shop.stocked(m, 0, 20);
        for (int i = 0; i < 10; i++) {
            m.promise(i);
        }
        return m;
    }

    private static void ordersTakeTheirRanges() {
        range(Shop::everyState, INDEX, 0, 0, 11, "order", 5, 1, 0);
        range(Shop::everyState, ARGUMENT, 1, 1, 20, "order", 5, 1, 0);
        range(Shop::everyState, ARGUMENT, 2, 0, 999, "order", 5, 1, 0);
        range(RangesTest::tenOrders, INDEX, 0, 0, 9, "promise", 0);
        range(RangesTest::tenOrders, INDEX, 0, 0, 9, "ship", 0);
    }

    private static void runTakesItsRange() {
        range(Shop::everyState, ARGUMENT, 0, 1, 50, "run", 1);
    }

    private static void view(Supplier<Millrace> shop, String due, int place, int least, int most, String call,
            int... right) {
        range(shop, due, place, least, most, call, right);
        Twins twins = new Twins(shop);
        twins.onlyTells(call, with(right, place, least));
        twins.onlyTells(call, with(right, place, most));
    }

    private static void viewsOfBatchesTakeTheirRanges() {
        view(Shop::everyState, INDEX, 0, 0, 6, "batch", 0, 0);
        view(RangesTest::sixty, INDEX, 0, 0, 59, "batch", 0, 0);
        view(Shop::everyState, ARGUMENT, 1, 0, 9, "batch", 0, 0);
        for (String call : new String[] {"parent", "origin"}) {
            view(Shop::everyState, INDEX, 0, 0, 6, call, 0, 0);
            view(RangesTest::sixty, INDEX, 0, 0, 59, call, 0, 0);
            view(Shop::everyState, ARGUMENT, 1, 0, MOST, call, 6, 0);
        }
    }

    private static void viewsOfTheFloorTakeTheirRanges() {
        view(Shop::everyState, INDEX, 0, 0, 0, "machine", 0, 0);
        view(RangesTest::sixPeople, INDEX, 0, 0, 5, "machine", 0, 0);
        view(Shop::everyState, ARGUMENT, 1, 0, 5, "machine", 0, 0);
        view(RangesTest::sixPeople, INDEX, 0, 0, 5, "level", 0, 0);
        view(Shop::everyState, INDEX, 1, 0, 3, "level", 0, 0);
        view(RangesTest::sixPeople, INDEX, 0, 0, 5, "machineOf", 0);
        view(Shop::everyState, INDEX, 0, 0, 6, "why", 0, 0);
        view(RangesTest::sixPeopleAndABatch, INDEX, 1, 0, 5, "why", 0, 0);
    }

    private static Millrace sixPeopleAndABatch() {
        Millrace m = sixPeople();
        m.make(1, 1, 0);
        return m;
    }

    private static void viewsOfKindsTakeTheirRanges() {
        view(Shop::everyState, INDEX, 0, 0, 11, "store", 0, 0);
        view(Shop::everyState, ARGUMENT, 1, 0, 1, "store", 0, 0);
        view(Shop::everyState, INDEX, 0, 0, 3, "queue", 0);
        view(Shop::everyState, INDEX, 0, 0, 3, "queued", 0, 0);
        view(Shop::everyState, ARGUMENT, 1, 0, MOST, "queued", 0, 0);
        view(RangesTest::allMade, INDEX, 0, 0, 11, "latest", 0, 0);
        view(RangesTest::allMade, ARGUMENT, 1, 0, 999, "latest", 0, 0);
        view(RangesTest::allMade, INDEX, 0, 0, 11, "earliest", 0);
        view(Shop::everyState, ARGUMENT, 0, 0, 5, "ledger", 0);
    }

    private static void viewsOfOrdersTakeTheirRanges() {
        view(RangesTest::tenOrders, INDEX, 0, 0, 9, "told", 0, 0);
        view(Shop::everyState, ARGUMENT, 1, 0, 5, "told", 0, 0);
    }

    /** Where there is no batch, machine, person or order at all, not even the number 0 is one. */
    private static void whatIsNotThereIsRefused() {
        Twins twins = new Twins(Millrace::new);
        for (int number : new int[] {Integer.MIN_VALUE, -1, 0, 1, Integer.MAX_VALUE}) {
            for (String call : new String[] {"late", "split", "join", "batch", "parent", "origin", "why", "machine",
                "level", "told"}) {
                twins.refuses(INDEX, call, number, 0);
            }
            twins.refuses(INDEX, "setLevel", number, 0, 0);
            twins.refuses(INDEX, "rank", number, 0, 0);
            for (String call : new String[] {"recall", "promise", "ship", "machineOf"}) {
                twins.refuses(INDEX, call, number);
            }
        }
    }
}
