/** Promises 7 to 9, and what levels and shifts mean in an hour. */
final class PeopleTest {
    public static void main(String[] args) {
        addMachineAddsAFreeOne();
        addMachineRefuses();
        addPersonAddsOneWithoutLevels();
        addPersonRefuses();
        setLevelSetsTheLevel();
        setLevelRefuses();
        levelsGrow();
        setLevelBeginsTheCountAgain();
        aLevelShortensTheWork();
        theBestOfThePeopleTakesIt();
        shiftsGoOverMidnight();
        workRestsBehindAShift();
        Checks.end("PeopleTest");
    }

    private static void addMachineAddsAFreeOne() {
        Millrace m = new Millrace();
        Checks.equal("first machine", m.addMachine(1, 0, 0, 1, 1, -1), 0);
        Checks.equal("second machine, a part that is nothing yet", m.addMachine(15, 5, 9, 50, 9, 11), 1);
        int[] due = {-1, 0, -1, 0, -1, 0};
        for (int what = 0; what <= 5; what++) {
            Checks.equal("machine 1, " + what, m.machine(1, what), due[what]);
        }
        for (int number = 2; number < 6; number++) {
            Checks.equal("machine", m.addMachine(1, 0, 0, 1, 1, 0), number);
        }
        Checks.noState("seventh machine", m, () -> m.addMachine(1, 0, 0, 1, 1, -1));
        Checks.noArgument("seventh machine, and no class", m, () -> m.addMachine(0, 0, 0, 1, 1, -1));
    }

    private static void addMachineRefuses() {
        Millrace m = new Millrace();
        Checks.noIndex("part 12", m, () -> m.addMachine(1, 0, 0, 1, 1, 12));
        Checks.noIndex("part -2", m, () -> m.addMachine(1, 0, 0, 1, 1, -2));
        Checks.noIndex("part 12 and classes 0", m, () -> m.addMachine(0, 0, 0, 1, 1, 12));
        Checks.noArgument("classes 0", m, () -> m.addMachine(0, 0, 0, 1, 1, -1));
        Checks.noArgument("classes 16", m, () -> m.addMachine(16, 0, 0, 1, 1, -1));
        Checks.noArgument("setUp -1", m, () -> m.addMachine(1, -1, 0, 1, 1, -1));
        Checks.noArgument("setUp 6", m, () -> m.addMachine(1, 6, 0, 1, 1, -1));
        Checks.noArgument("cost -1", m, () -> m.addMachine(1, 0, -1, 1, 1, -1));
        Checks.noArgument("cost 10", m, () -> m.addMachine(1, 0, 10, 1, 1, -1));
        Checks.noArgument("limit 0", m, () -> m.addMachine(1, 0, 0, 0, 1, -1));
        Checks.noArgument("limit 51", m, () -> m.addMachine(1, 0, 0, 51, 1, -1));
        Checks.noArgument("repair 0", m, () -> m.addMachine(1, 0, 0, 1, 0, -1));
        Checks.noArgument("repair 10", m, () -> m.addMachine(1, 0, 0, 1, 10, -1));
    }

    private static void addPersonAddsOneWithoutLevels() {
        Millrace m = new Millrace();
        Checks.equal("first person", m.addPerson(0, 0, 1), 0);
        Checks.equal("second person", m.addPerson(9, 23, 24), 1);
        for (int skill = 0; skill < 4; skill++) {
            Checks.equal("level at first", m.level(1, skill), 0);
        }
        Checks.equal("at no machine", m.machineOf(1), -1);
        for (int number = 2; number < 6; number++) {
            Checks.equal("person", m.addPerson(0, 0, 24), number);
        }
        Checks.noState("seventh person", m, () -> m.addPerson(0, 0, 24));
        Checks.noArgument("seventh person, and no hours", m, () -> m.addPerson(0, 0, 0));
    }

    private static void addPersonRefuses() {
        Millrace m = new Millrace();
        Checks.noArgument("wage -1", m, () -> m.addPerson(-1, 0, 1));
        Checks.noArgument("wage 10", m, () -> m.addPerson(10, 0, 1));
        Checks.noArgument("begin -1", m, () -> m.addPerson(0, -1, 1));
        Checks.noArgument("begin 24", m, () -> m.addPerson(0, 24, 1));
        Checks.noArgument("hours 0", m, () -> m.addPerson(0, 0, 0));
        Checks.noArgument("hours 25", m, () -> m.addPerson(0, 0, 25));
    }

    private static void setLevelSetsTheLevel() {
        Millrace m = new Millrace();
        m.addPerson(0, 0, 24);
        m.addPerson(0, 0, 24);
        Checks.equal("level before", m.setLevel(1, 3, 3), 0);
        Checks.equal("level before", m.setLevel(1, 3, 1), 3);
        Checks.equal("level before", m.setLevel(1, 3, 0), 1);
        m.setLevel(1, 2, 2);
        Checks.equal("level", m.level(1, 2), 2);
        Checks.equal("level in another skill", m.level(1, 3), 0);
        Checks.equal("level of someone else", m.level(0, 2), 0);
    }

    private static void setLevelRefuses() {
        Millrace m = new Millrace();
        m.addPerson(0, 0, 24);
        Checks.noIndex("person 1", m, () -> m.setLevel(1, 0, 4));
        Checks.noIndex("person -1", m, () -> m.setLevel(-1, 0, 0));
        Checks.noIndex("skill 4", m, () -> m.setLevel(0, 4, 4));
        Checks.noIndex("skill -1", m, () -> m.setLevel(0, -1, 0));
        Checks.noArgument("level 4", m, () -> m.setLevel(0, 0, 4));
        Checks.noArgument("level -1", m, () -> m.setLevel(0, 0, -1));
    }

    /** Batches of 1 hour each, one a time: an hour of work in every hour, from the hour 1 on. */
    private static Millrace busy() {
        Millrace m = Shop.working(1);
        m.setQueue(0, 60);
        m.setStore(1, 99);
        for (int i = 0; i < 40; i++) {
            m.make(1, 1, 0);
        }
        m.run(1);
        return m;
    }

    private static void levelsGrow() {
        Millrace m = busy();
        m.run(7);
        Checks.equal("7 hours at the level 1", m.level(0, 0), 1);
        m.run(1);
        Checks.equal("8 hours at the level 1", m.level(0, 0), 2);
        m.run(7);
        Checks.equal("7 hours at the level 2", m.level(0, 0), 2);
        m.run(1);
        Checks.equal("8 hours at the level 2", m.level(0, 0), 3);
        m.run(12);
        Checks.equal("12 hours at the level 3", m.level(0, 0), 3);
        Checks.equal("a skill that was not used", m.level(0, 1), 1);
        m.setLevel(0, 0, 2);
        m.run(7);
        Checks.equal("hours at the level 3 do not count for it", m.level(0, 0), 2);
        m.run(1);
        Checks.equal("8 hours since it was set", m.level(0, 0), 3);
    }

    private static void setLevelBeginsTheCountAgain() {
        Millrace m = busy();
        m.run(6);
        m.setLevel(0, 0, 1);
        m.run(7);
        Checks.equal("7 hours since the same level was set", m.level(0, 0), 1);
        m.run(1);
        Checks.equal("8 hours since then", m.level(0, 0), 2);
        m.run(5);
        m.setLevel(0, 1, 2);
        m.run(3);
        Checks.equal("another skill was set", m.level(0, 0), 3);
    }

    private static void aLevelShortensTheWork() {
        int[] due = {4, 3, 2};
        for (int level = 1; level <= 3; level++) {
            Millrace m = Shop.withMade(4);
            Shop.addMachine(m, 1);
            Shop.addPerson(m, level);
            m.make(1, 1, 0);
            m.run(1);
            Checks.equal("4 hours at the level " + level, m.machine(0, 1), due[level - 1]);
        }
        Millrace m = Shop.withMade(1);
        m.addMachine(1, 5, 0, 50, 1, -1);
        Shop.addPerson(m, 3);
        m.make(1, 1, 0);
        m.make(1, 1, 0);
        m.run(1);
        Checks.equal("at least 1 hour, and 5 for setting up", m.machine(0, 1), 6);
        m.run(6);
        Checks.equal("the same kind again", m.machine(0, 0), 1);
        Checks.equal("no setting up", m.machine(0, 1), 1);
        m.addOperation(2, 0, 0, 2);
        m.make(2, 1, 0);
        m.run(1);
        Checks.equal("another kind", m.machine(0, 4), 2);
        Checks.equal("setting up again", m.machine(0, 1), 6);
    }

    private static void theBestOfThePeopleTakesIt() {
        Millrace m = Shop.withMade(9);
        for (int i = 0; i < 4; i++) {
            Shop.addMachine(m, 1);
            m.make(1, 1, 0);
        }
        Shop.addPerson(m, 0);
        Shop.addPerson(m, 2);
        Shop.addPerson(m, 3);
        Shop.addPerson(m, 3);
        Shop.addPerson(m, 1);
        m.addPerson(0, 12, 12);
        m.setLevel(5, 0, 3);
        m.run(1);
        int[] due = {2, 3, 1, 4};
        for (int machine = 0; machine < 4; machine++) {
            Checks.equal("who is at machine " + machine, m.machine(machine, 2), due[machine]);
            Checks.equal("where that one is", m.machineOf(due[machine]), machine);
        }
        Checks.equal("the level 0 takes nothing", m.machineOf(0), -1);
        Checks.equal("who is not on shift takes nothing", m.machineOf(5), -1);
    }

    private static void shiftsGoOverMidnight() {
        Millrace m = Shop.withMade(9);
        m.addMachine(1, 5, 0, 50, 1, -1);
        m.addPerson(0, 22, 4);
        m.setLevel(0, 0, 1);
        m.make(1, 1, 0);
        m.stand(true);
        m.run(2);
        m.stand(false);
        m.run(20);
        Checks.equal("not taken in the hours 2 to 21", m.machine(0, 0), -1);
        m.run(1);
        Checks.equal("taken in the hour 22", m.machine(0, 1), 14);
        m.run(1);
        Checks.equal("worked in the hour 23", m.machine(0, 1), 13);
        m.run(2);
        Checks.equal("worked in the hours 0 and 1 of the day", m.machine(0, 1), 11);
        m.run(20);
        Checks.equal("not in the hours 2 to 21 of the day", m.machine(0, 1), 11);
        Checks.equal("still at the machine", m.machineOf(0), 0);
        m.run(1);
        Checks.equal("worked in the hour 22 of the day", m.machine(0, 1), 10);
    }

    private static void workRestsBehindAShift() {
        Millrace m = Shop.withMade(3);
        m.addMachine(1, 0, 3, 50, 1, -1);
        m.addPerson(4, 0, 3);
        m.setLevel(0, 0, 1);
        m.make(1, 1, 0);
        m.run(24);
        Checks.equal("2 of 3 hours were worked", m.machine(0, 1), 1);
        Checks.equal("and cost", m.batch(0, 2), 14);
        Checks.equal("and wore", m.machine(0, 3), 2);
        m.run(1);
        Checks.equal("done in the next shift", m.batch(0, 3), 3);
        Checks.equal("it cost", m.batch(0, 2), 21);
        Checks.equal("worked", m.ledger(1), 21);
    }
}
