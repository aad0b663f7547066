import java.util.function.Supplier;

/** The sentences about plans that name a boundary case: promises 35 and 36. */
final class PlansEdgesTest {
    public static void main(String[] args) {
        aBoughtKindTakesItsTime();
        aMadeKindTakesTheHoursOfItsRoute();
        theLeastOfTheLinesIfItIsLess();
        partsThatTakeNoTimeDoNotMatter();
        levelsAddUp();
        whatDoesNotMatter();
        theFirstAndTheLastHour();
        aKindThatIsNothingHasNoPlan();
        norHasOneThatIsMadeOfNothing();
        aStandInMayBeNothing();
        Checks.end("PlansEdgesTest");
    }

    /** The hours from beginning to being done, as both plans tell them. */
    private static void takes(String what, Millrace m, int kind, int hours) {
        Checks.equal(what + ", earliest", m.earliest(kind), m.hour() + hours);
        Checks.equal(what + ", latest for 0", m.latest(kind, 0), -hours);
        Checks.equal(what + ", latest for just that", m.latest(kind, hours), 0);
        Checks.equal(what + ", latest for 1 less", m.latest(kind, hours - 1), -1);
        Checks.equal(what + ", latest for 999", m.latest(kind, 999), 999 - hours);
    }

    /** "of a bought one that hour less its time to come"; "now and its time to come". */
    private static void aBoughtKindTakesItsTime() {
        for (int hours : new int[] {1, 2, 29, 30}) {
            Millrace m = new Millrace();
            m.setBought(0, 1, hours);
            takes("bought", m, 0, hours);
            m.run(7);
            takes("bought, later", m, 0, hours);
        }
        Millrace m = new Millrace();
        m.setBought(11, 1, 0);
        Checks.equal("there at once", m.earliest(11), 0);
        Checks.equal("on the day", m.latest(11, 999) + m.latest(11, 0), 999);
    }

    /** "that hour less the hours of its operations": of 1 to 4 of them, of 1 to 9 hours. */
    private static void aMadeKindTakesTheHoursOfItsRoute() {
        Millrace m = new Millrace();
        for (int i = 1; i <= 4; i++) {
            m.addOperation(0, 0, 0, 9);
            takes(i + " operations of 9 hours", m, 0, 9 * i);
            m.addOperation(11, 3, 3, 1);
            takes(i + " operations of 1 hour", m, 11, i);
        }
    }

    /** Kinds 0 to 2 bought with these times, kind 3 made of them in 5 hours. */
    private static Millrace ofThree(int... times) {
        Millrace m = new Millrace();
        for (int kind = 0; kind < 3; kind++) {
            m.setBought(kind, 1, times[kind]);
            m.addLine(3, kind, 3, -1);
        }
        m.addOperation(3, 0, 0, 3);
        m.addOperation(3, 0, 0, 2);
        return m;
    }

    /** "it is b, or the least of the latest hours to begin with the kinds of its lines for b, if that is less". */
    private static void theLeastOfTheLinesIfItIsLess() {
        takes("the first takes longest", ofThree(9, 8, 7), 3, 14);
        takes("the second takes longest", ofThree(7, 9, 8), 3, 14);
        takes("the third takes longest", ofThree(8, 7, 9), 3, 14);
        takes("all take as long", ofThree(30, 30, 30), 3, 35);
        takes("one takes 1 hour", ofThree(0, 1, 0), 3, 6);
    }

    private static void partsThatTakeNoTimeDoNotMatter() {
        takes("none takes any", ofThree(0, 0, 0), 3, 5);
        Millrace m = new Millrace();
        m.addOperation(3, 0, 0, 5);
        takes("there are none", m, 3, 5);
    }

    /** 12 levels, each made of the one below and of one far below. */
    private static void levelsAddUp() {
        Millrace m = new Millrace();
        m.setBought(0, 1, 4);
        for (int kind = 1; kind < 12; kind++) {
            m.addLine(kind, kind - 1, 1, -1);
            if (kind > 1) {
                m.addLine(kind, 0, 1, -1);
            }
            m.addOperation(kind, 0, 0, 2);
            takes("of the level " + kind, m, kind, 4 + 2 * kind);
        }
    }

    /** "Stand-ins, set-up, shifts and levels do not matter"; "as if there were nothing". */
    private static void whatDoesNotMatter() {
        Millrace m = new Millrace();
        m.setBought(0, 1, 4);
        m.setBought(1, 1, 30);
        m.setBought(2, 1, 0);
        m.addLine(3, 0, 1, 1);
        m.addLine(3, 0, 1, 2);
        m.addOperation(3, 0, 0, 5);
        takes("whatever stands in", m, 3, 9);
        m.addMachine(1, 5, 0, 1, 1, -1);
        m.addPerson(0, 20, 1);
        m.setLevel(0, 0, 3);
        takes("with a machine and someone", m, 3, 9);
        m.buy(0, 9);
        m.make(3, 2, 0);
        m.run(30);
        m.stand(true);
        takes("whatever is there, comes, or is made", m, 3, 9);
        Millrace stocked = new Millrace();
        stocked.setBought(0, 1, 4);
        stocked.addLine(1, 0, 1, -1);
        stocked.addOperation(1, 0, 0, 5);
        Shop.addMachine(stocked, 1);
        Shop.addPerson(stocked, 3);
        stocked.buy(0, 9);
        stocked.make(1, 2, 0);
        stocked.run(9);
        Checks.equal("both are in store", stocked.store(0, 0) * 10 + stocked.store(1, 0), 72);
        takes("whatever is in store of the kind itself", stocked, 1, 9);
        takes("whatever is in store of a bought one", stocked, 0, 4);
    }

    /** The hours 0 and 2000, and the due hours 0 and 999. */
    private static void theFirstAndTheLastHour() {
        Millrace m = ofThree(9, 8, 7);
        Checks.equal("from the hour 0 on", m.earliest(3), 14);
        Checks.equal("for the hour 999", m.latest(3, 999), 985);
        Shop.pass(m, 2000);
        Checks.equal("from the hour 2000 on", m.earliest(3), 2014);
        Checks.equal("the hour does not matter for the latest", m.latest(3, 0), -14);
        Twins twins = new Twins(() -> ofThree(9, 8, 7));
        twins.refuses(Twins.ARGUMENT, "latest", 3, 1000);
        twins.refuses(Twins.ARGUMENT, "latest", 3, -1);
    }

    private static void refused(Supplier<Millrace> shop, int kind) {
        Twins twins = new Twins(shop);
        twins.refuses(Twins.STATE, "latest", kind, 0);
        twins.refuses(Twins.STATE, "latest", kind, 999);
        twins.refuses(Twins.STATE, "earliest", kind);
    }

    /** "if the kind ... is nothing": and a bill without a route makes it no more. */
    private static void aKindThatIsNothingHasNoPlan() {
        refused(Millrace::new, 0);
        refused(Millrace::new, 11);
        refused(() -> {
            Millrace m = ofThree(1, 1, 1);
            m.addLine(4, 3, 1, -1);
            return m;
        }, 4);
    }

    /** "or one of which it is made": in the first, the second or the third line, or at a lower level. */
    private static void norHasOneThatIsMadeOfNothing() {
        for (int nothing = 0; nothing < 3; nothing++) {
            int lacking = nothing;
            Supplier<Millrace> shop = () -> {
                Millrace m = new Millrace();
                for (int kind = 0; kind < 3; kind++) {
                    if (kind != lacking) {
                        m.setBought(kind, 1, 30);
                    }
                    m.addLine(3, kind, 1, -1);
                }
                m.addOperation(3, 0, 0, 1);
                m.addLine(4, 3, 1, -1);
                m.addOperation(4, 0, 0, 9);
                m.addLine(5, lacking == 0 ? 1 : 0, 1, -1);
                m.addLine(5, 4, 1, -1);
                m.addOperation(5, 0, 0, 1);
                return m;
            };
            for (int kind = 3; kind <= 5; kind++) {
                refused(shop, kind);
            }
            Millrace m = shop.get();
            m.setBought(nothing, 1, 0);
            Checks.equal("when it is bought", m.earliest(5), 41);
            Millrace made = shop.get();
            made.addOperation(nothing, 0, 0, 1);
            Checks.equal("when it is made", made.earliest(5), 41);
        }
    }

    private static void aStandInMayBeNothing() {
        Millrace m = new Millrace();
        m.setBought(1, 1, 6);
        m.addLine(2, 1, 1, 0);
        m.addOperation(2, 0, 0, 1);
        takes("what stands in is nothing", m, 2, 7);
        Twins twins = new Twins(() -> {
            Millrace other = new Millrace();
            other.setBought(1, 1, 6);
            other.addLine(2, 0, 1, 1);
            other.addOperation(2, 0, 0, 1);
            return other;
        });
        twins.refuses(Twins.STATE, "earliest", 2);
        twins.refuses(Twins.STATE, "latest", 2, 9);
    }
}
