/** The sentences about people, their levels and shifts, and about setting up, that name a boundary case. */
final class PeopleEdgesTest {
    private static final int NO_ONE = 5;

    public static void main(String[] args) {
        theHourOfTheDayIsTheRemainderBy24();
        aShiftIsOverBehindItsLastHour();
        theLastHourOfAShiftIsWorked();
        aLevelIsGotInEightHours();
        aLevelThatWasSetIsGotAnew();
        hoursOfAnotherSkillDoNotCount();
        hoursCountOverBatchesAndMachines();
        aPersonOfLevelZeroBeginsNothing();
        whoIsSetToZeroGoesOn();
        whoHasWorkBeginsNothing();
        theGreatestLevelAndThenTheLowestNumber();
        theHoursAreAtLeastOne();
        settingUpForAnotherKindOrNone();
        noSettingUpForAnotherOperation();
        costsAndWagesMayBeNothing();
        Checks.end("PeopleEdgesTest");
    }

    /** Whether someone of that shift is there to begin, in each of the hours 0 to 49, as signs. */
    private static String presence(int begin, int hours) {
        Millrace m = Shop.withMade(1);
        Shop.addMachine(m, 1);
        m.addPerson(0, begin, hours);
        m.setLevel(0, 0, 1);
        m.make(1, 1, 0);
        m.stand(true);
        StringBuilder signs = new StringBuilder();
        for (int hour = 0; hour < 50; hour++) {
            int why = m.why(0, 0);
            signs.append(why == 0 ? '#' : why == NO_ONE ? '.' : '?');
            m.run(1);
        }
        return signs.toString();
    }

    private static void isThere(int begin, int hours, String day) {
        Checks.equal("a shift from " + begin + " that lasts " + hours, presence(begin, hours),
            day + day + day.substring(0, 2));
    }

    /** "a shift, which begins at an hour of the day and lasts some; the hour of the day is the remainder ... by 24". */
    private static void theHourOfTheDayIsTheRemainderBy24() {
        isThere(0, 1, "#.......................");
        isThere(23, 1, ".......................#");
        isThere(0, 24, "########################");
        isThere(23, 24, "########################");
        isThere(1, 23, ".#######################");
        isThere(0, 23, "#######################.");
        isThere(23, 23, "######################.#");
        isThere(23, 2, "#......................#");
        isThere(22, 2, "......................##");
        isThere(22, 4, "##....................##");
        isThere(12, 12, "............############");
        isThere(12, 13, "#...........############");
        isThere(6, 8, "......########..........");
        isThere(20, 10, "######..............####");
    }

    /** Work is done in the hours of a shift, at the machine to which someone came in an hour of the shift. */
    private static void aShiftIsOverBehindItsLastHour() {
        Millrace m = Shop.withMade(9);
        Shop.addMachine(m, 1);
        m.addPerson(0, 23, 3);
        m.setLevel(0, 0, 1);
        m.run(2);
        m.make(1, 1, 0);
        m.run(21);
        Checks.equal("not begun in the hours 2 to 22", m.machine(0, 0), -1);
        m.run(1);
        Checks.equal("begun in the hour 23", m.machine(0, 1), 9);
        m.run(2);
        Checks.equal("worked in the hours 24 and 25", m.machine(0, 1), 7);
        m.run(21);
        Checks.equal("not in the hours 26 to 46", m.machine(0, 1), 7);
        m.run(1);
        Checks.equal("worked in the hour 47", m.machine(0, 1), 6);
        m.run(2);
        Checks.equal("worked in the hours 48 and 49", m.machine(0, 1), 4);
        m.run(1);
        Checks.equal("not in the hour 50", m.machine(0, 1), 4);
    }

    /** Work that ends in the last hour of a shift is done; what is begun in that hour is worked on the day after. */
    private static void theLastHourOfAShiftIsWorked() {
        Millrace m = Shop.withMade(3);
        Shop.addMachine(m, 1);
        m.addPerson(0, 0, 4);
        m.setLevel(0, 0, 1);
        m.make(1, 1, 5);
        m.make(1, 1, 4);
        m.run(4);
        Checks.equal("done in the last hour", m.batch(0, 3), 3);
        Checks.equal("the next is begun in it", m.machine(0, 0), 1);
        m.run(20);
        Checks.equal("all its hours are left", m.machine(0, 1), 3);
        m.run(1);
        Checks.equal("worked on the next day", m.machine(0, 1), 2);
    }

    /** A person at work in every hour from the hour 1 on, for 40 hours, with that level in the skill 0. */
    private static Millrace atWork(int level) {
        Millrace m = Shop.withMade(1);
        m.addMachine(1, 0, 0, 50, 1, -1);
        Shop.addPerson(m, 3);
        m.setQueue(0, 60);
        m.setStore(1, 99);
        for (int i = 0; i < 40; i++) {
            m.make(1, 1, 0);
        }
        m.run(1);
        m.setLevel(0, 0, level);
        return m;
    }

    private static void grows(Millrace m, int hours, int due) {
        m.run(hours);
        Checks.equal("level at the hour " + m.hour(), m.level(0, 0), due);
    }

    /** "When someone has worked 8 hours at a skill, since the level was got, the level is 1 more, if it is below 3." */
    private static void aLevelIsGotInEightHours() {
        Millrace m = atWork(1);
        grows(m, 7, 1);
        grows(m, 1, 2);
        grows(m, 7, 2);
        grows(m, 1, 3);
        grows(m, 8, 3);
        grows(m, 8, 3);
    }

    /** "hours worked at it count from 0 again": whichever level is set, the same one, too. */
    private static void aLevelThatWasSetIsGotAnew() {
        Millrace m = atWork(1);
        grows(m, 7, 1);
        Checks.equal("level before", m.setLevel(0, 0, 1), 1);
        grows(m, 7, 1);
        Checks.equal("level before", m.setLevel(0, 0, 2), 1);
        grows(m, 7, 2);
        grows(m, 1, 3);
        grows(m, 7, 3);
        Checks.equal("level before", m.setLevel(0, 0, 2), 3);
        grows(m, 7, 2);
        grows(m, 1, 3);
    }

    private static void hoursOfAnotherSkillDoNotCount() {
        Millrace m = new Millrace();
        m.addOperation(0, 0, 2, 8);
        m.addOperation(0, 0, 3, 8);
        Shop.addMachine(m, 1);
        m.addPerson(0, 0, 24);
        m.setLevel(0, 2, 2);
        m.setLevel(0, 3, 2);
        m.make(0, 1, 0);
        m.make(0, 1, 0);
        m.run(1 + 7 + 7);
        Checks.equal("7 hours at the skill 2", m.level(0, 2), 2);
        Checks.equal("7 hours at the skill 3", m.level(0, 3), 2);
        Checks.equal("back at the skill 2", m.machine(0, 0), 1);
        m.setLevel(0, 3, 2);
        m.setLevel(0, 1, 2);
        m.setLevel(0, 0, 0);
        m.run(1);
        Checks.equal("8 hours at the skill 2, whatever was set for others", m.level(0, 2), 3);
        Checks.equal("none at the skill 3", m.level(0, 3), 2);
        Checks.equal("none at the skill 1", m.level(0, 1), 2);
        Checks.equal("none at the skill 0", m.level(0, 0), 0);
    }

    /** 4 hours at each of two machines, with a day in between, are 8 hours. */
    private static void hoursCountOverBatchesAndMachines() {
        Millrace m = new Millrace();
        m.addOperation(0, 0, 1, 4);
        m.addOperation(0, 1, 1, 4);
        Shop.addMachine(m, 1);
        Shop.addMachine(m, 2);
        m.addPerson(0, 0, 5);
        m.setLevel(0, 1, 1);
        m.make(0, 1, 0);
        m.run(24);
        Checks.equal("4 hours at one machine", m.level(0, 1), 1);
        Checks.equal("at the other one now", m.machineOf(0), 1);
        m.run(3);
        Checks.equal("3 hours at the other", m.level(0, 1), 1);
        m.run(1);
        Checks.equal("4 hours at the other", m.level(0, 1), 2);
    }

    /** "has a level above 0 in the skill". */
    private static void aPersonOfLevelZeroBeginsNothing() {
        for (int skill = 0; skill < 4; skill++) {
            Millrace m = new Millrace();
            m.addOperation(0, 0, skill, 1);
            Shop.addMachine(m, 1);
            Shop.addPerson(m, 3);
            m.setLevel(0, skill, 0);
            m.make(0, 1, 0);
            m.run(3);
            Checks.equal("the level 0 in the skill " + skill, m.why(0, 0), NO_ONE);
            m.setLevel(0, skill, 1);
            Checks.equal("the level 1", m.why(0, 0), 0);
            m.run(1);
            Checks.equal("it is begun", m.batch(0, 3), 2);
        }
    }

    /** Only to begin takes a level: whoever is at a machine works on, and gets the level 1 in 8 hours. */
    private static void whoIsSetToZeroGoesOn() {
        Millrace m = Shop.withMade(9);
        m.addMachine(1, 5, 0, 50, 1, -1);
        m.addPerson(0, 0, 24);
        m.setLevel(0, 0, 1);
        m.make(1, 1, 0);
        m.run(1);
        m.setLevel(0, 0, 0);
        grows(m, 7, 0);
        Checks.equal("it was worked", m.machine(0, 1), 7);
        grows(m, 1, 1);
    }

    /** "someone who has no work": one person cannot be at two machines. */
    private static void whoHasWorkBeginsNothing() {
        Millrace m = Shop.working(2);
        Shop.addMachine(m, 1);
        m.make(1, 1, 0);
        m.make(1, 1, 0);
        Checks.equal("someone is there", m.why(1, 1), 0);
        m.run(1);
        Checks.equal("no one is there", m.why(1, 1), NO_ONE);
        Checks.equal("the second machine has none", m.machine(1, 2), -1);
        m.run(2);
        Checks.equal("the first machine takes the next", m.machine(0, 0), 1);
    }

    /** "the one with the greatest level, of several the lowest": whoever costs less. */
    private static void theGreatestLevelAndThenTheLowestNumber() {
        int[][] levels = {{1, 1, 1}, {1, 2, 2}, {2, 1, 3}, {3, 3, 3}, {0, 0, 1}, {0, 1, 0}, {2, 3, 3}, {3, 1, 3}};
        int[] due = {0, 1, 2, 0, 2, 1, 1, 0};
        for (int i = 0; i < levels.length; i++) {
            Millrace m = Shop.withMade(1);
            Shop.addMachine(m, 1);
            for (int person = 0; person < 3; person++) {
                m.addPerson(9 - 4 * person, 0, 24);
                m.setLevel(person, 0, levels[i][person]);
                m.setLevel(person, 1, 3 - levels[i][person]);
            }
            m.make(1, 1, 0);
            m.run(1);
            Checks.equal("of the levels of the row " + i, m.machine(0, 2), due[i]);
        }
    }

    /** The hours that a batch of an operation begins with. */
    private static int hoursLeft(int hours, int level, int setUp) {
        Millrace m = Shop.withMade(hours);
        m.addMachine(1, setUp, 0, 50, 1, -1);
        Shop.addPerson(m, level);
        m.make(1, 1, 0);
        m.run(1);
        return m.machine(0, 1);
    }

    /** "those of the operation less the person's level, and 1, together, but at least 1; and those for setting up". */
    private static void theHoursAreAtLeastOne() {
        int[][] due = {
            {1, 2, 3, 4, 5, 6, 7, 8, 9},
            {1, 1, 2, 3, 4, 5, 6, 7, 8},
            {1, 1, 1, 2, 3, 4, 5, 6, 7},
        };
        for (int level = 1; level <= 3; level++) {
            for (int hours = 1; hours <= 9; hours++) {
                int least = due[level - 1][hours - 1];
                String what = hours + " hours at the level " + level;
                Checks.equal(what, hoursLeft(hours, level, 0), least);
                Checks.equal(what + ", and 1 for setting up", hoursLeft(hours, level, 1), least + 1);
                Checks.equal(what + ", and 5 for setting up", hoursLeft(hours, level, 5), least + 5);
            }
        }
    }

    /** "if the machine did another kind last, or none". */
    private static void settingUpForAnotherKindOrNone() {
        Millrace m = Shop.withMade(1);
        m.addOperation(2, 0, 0, 1);
        m.addMachine(1, 4, 0, 50, 1, -1);
        Shop.addPerson(m, 1);
        int[] kinds = {1, 1, 2, 2, 1};
        int[] due = {5, 1, 5, 1, 5};
        for (int i = 0; i < kinds.length; i++) {
            m.make(kinds[i], 1, 0);
            m.run(1);
            Checks.equal("the hours of the batch " + i, m.machine(0, 1), due[i]);
            Checks.equal("the kind that it does", m.machine(0, 4), kinds[i]);
            m.run(due[i]);
            Checks.equal("the kind that it did last", m.machine(0, 4), kinds[i]);
        }
        m.make(2, 1, 0);
        m.run(1);
        m.recall(5);
        m.make(2, 1, 0);
        m.run(1);
        Checks.equal("what was recalled was its last kind all the same", m.machine(0, 1), 1);
    }

    /** "if the machine did another kind last": not for another operation of the same kind, though of another class. */
    private static void noSettingUpForAnotherOperation() {
        Millrace m = new Millrace();
        m.addOperation(0, 0, 0, 2);
        m.addOperation(0, 1, 1, 2);
        m.addMachine(3, 4, 0, 50, 1, -1);
        Shop.addPerson(m, 1);
        m.make(0, 1, 0);
        m.run(1);
        Checks.equal("set up for the kind", m.machine(0, 1), 6);
        m.run(6);
        Checks.equal("the second operation", m.batch(0, 4), 1);
        Checks.equal("is begun in the hour in which the first is done", m.batch(0, 3), 2);
        Checks.equal("without setting up", m.machine(0, 1), 2);
    }

    /** "cost: 0 to 9 for each hour"; "wage: 0 to 9 for each hour that is worked". */
    private static void costsAndWagesMayBeNothing() {
        int[][] costs = {{0, 0}, {0, 9}, {9, 0}, {9, 9}, {1, 0}, {0, 1}};
        for (int[] cost : costs) {
            Millrace m = Shop.withMade(2);
            m.addMachine(1, 1, cost[0], 50, 1, -1);
            m.addPerson(cost[1], 0, 24);
            m.setLevel(0, 0, 1);
            m.make(1, 1, 0);
            m.run(1);
            Checks.equal("nothing yet", m.ledger(1), 0);
            m.run(3);
            Checks.equal("3 hours, with one for setting up", m.batch(0, 2), 3 * (cost[0] + cost[1]));
            Checks.equal("worked", m.ledger(1), 3 * (cost[0] + cost[1]));
        }
    }
}
