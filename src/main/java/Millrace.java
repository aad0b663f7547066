/**
 * A factory, hour by hour: parts and their bills, batches on their way through queues, machines and stores,
 * people, faults, repairs, orders, and a ledger in which all costs add up.
 *
 * This class is the face: it tests the arguments and the state, and only then changes anything. Floor does the
 * hours, Stock keeps the batches and the orders.
 */
public final class Millrace {
    private static final int NONE = -1;

    private static final int KINDS = 12;
    private static final int CLASSES = 4;
    private static final int SKILLS = 4;
    private static final int LINES = 3;
    private static final int OPERATIONS = 4;
    private static final int MACHINES = 6;
    private static final int PEOPLE = 6;
    private static final int BATCHES = 60;
    private static final int ORDERS = 10;

    private static final int STORE_AT_FIRST = 20;
    private static final int QUEUE_AT_FIRST = 9;
    private static final int MOST_PIECES = 20;
    private static final int MOST_PRIORITY = 9;
    private static final int MOST_DUE = 999;
    private static final int LAST_HOUR = 2000;
    private static final int DAY = 24;

    private static final int TOP_LEVEL = 3;
    private static final int HOURS_TO_LEARN = 8;
    private static final int OPERATIONS_TO_FIND = 2;

    private static final int COMING = 0;
    private static final int WAITING = 1;
    private static final int ON_MACHINE = 2;
    private static final int IN_STORE = 3;
    private static final int GONE = 4;
    private static final int SCRAPPED = 5;
    private static final int SHIPPED = 6;

    private static final int NO_REPAIR = 0;
    private static final int REPAIR_NEEDED = 1;
    private static final int REPAIR_BEGUN = 2;

    private static final int CAN_BEGIN = 0;
    private static final int WAITS_NOT = 1;
    private static final int IS_FROZEN = 2;
    private static final int OTHER_CLASS = 3;
    private static final int MACHINE_BUSY = 4;
    private static final int NO_PERSON = 5;
    private static final int PARTS_LACKING = 6;

    private final Kind[] kinds = new Kind[KINDS];
    private final Floor floor = new Floor();
    private final Stock stock = floor.stock;
    private int hour;
    private boolean isStanding;
    private int bought;

    public Millrace() {
        for (int i = 0; i < kinds.length; i++) {
            kinds[i] = new Kind(i);
        }
    }

    // ---- parts

    public void setBought(int kind, int price, int hours)
            throws IndexOutOfBoundsException, IllegalArgumentException, IllegalStateException {
        Kind row = kindAt(kind);
        requireRange(price, 1, 99);
        requireRange(hours, 0, 30);
        requireState(!row.wasBatched && row.lineCount == 0 && row.operationCount == 0);
        row.isBought = true;
        row.price = price;
        row.hours = hours;
    }

    public int addLine(int kind, int part, int many, int other)
            throws IndexOutOfBoundsException, IllegalArgumentException, IllegalStateException {
        Kind row = kindAt(kind);
        Kind partRow = kindAt(part);
        Kind otherRow = kindOrNone(other);
        requireArgument(part < kind && other < kind && part != other);
        requireRange(many, 1, 3);
        requireState(row.canBeMade());
        return row.putLine(new Line(partRow, many, otherRow));
    }

    public int addOperation(int kind, int work, int skill, int hours)
            throws IndexOutOfBoundsException, IllegalArgumentException, IllegalStateException {
        Kind row = kindAt(kind);
        requireIndex(work, CLASSES);
        requireIndex(skill, SKILLS);
        requireRange(hours, 1, 9);
        requireState(row.canBeMade());
        return row.putOperation(new Operation(work, skill, hours));
    }

    // The heading of the parts speaks of a state in which these two would throw, but neither names that
    // exception, and a store "can be set at any time": so they are not refused.

    public int setStore(int kind, int size) throws IndexOutOfBoundsException, IllegalArgumentException {
        Kind row = kindAt(kind);
        requireRange(size, 0, 99);
        int before = row.storeSize;
        row.storeSize = size;
        return before;
    }

    public int setQueue(int work, int size) throws IndexOutOfBoundsException, IllegalArgumentException {
        requireIndex(work, CLASSES);
        requireRange(size, 0, 60);
        int before = stock.queueSizes[work];
        stock.queueSizes[work] = size;
        return before;
    }

    // ---- machines and people

    public int addMachine(int classes, int setUp, int cost, int limit, int repair, int part)
            throws IndexOutOfBoundsException, IllegalArgumentException, IllegalStateException {
        Kind partRow = kindOrNone(part);
        requireRange(classes, 1, 15);
        requireRange(setUp, 0, 5);
        requireRange(cost, 0, 9);
        requireRange(limit, 1, 50);
        requireRange(repair, 1, 9);
        int number = floor.machineCount;
        floor.putMachine(new Machine(number, classes, setUp, cost, limit, repair, partRow));
        return number;
    }

    public int addPerson(int wage, int begin, int hours) throws IllegalArgumentException, IllegalStateException {
        requireRange(wage, 0, 9);
        requireRange(begin, 0, DAY - 1);
        requireRange(hours, 1, DAY);
        int number = floor.personCount;
        floor.putPerson(new Person(number, wage, begin, hours));
        return number;
    }

    public int setLevel(int person, int skill, int level) throws IndexOutOfBoundsException, IllegalArgumentException {
        Person row = personAt(person);
        requireIndex(skill, SKILLS);
        requireRange(level, 0, TOP_LEVEL);
        int before = row.levels[skill];
        row.reach(skill, level);
        return before;
    }

    // ---- batches

    public int buy(int kind, int pieces)
            throws IndexOutOfBoundsException, IllegalArgumentException, IllegalStateException {
        Kind row = kindAt(kind);
        requireRange(pieces, 1, MOST_PIECES);
        requireState(row.isBought);
        Batch batch = stock.newBatch(row, pieces, COMING);
        batch.cost = row.price * pieces;
        batch.comes = hour + row.hours;
        bought += batch.cost;
        return batch.number;
    }

    public int late(int batch, int hours)
            throws IndexOutOfBoundsException, IllegalArgumentException, IllegalStateException {
        Batch row = batchAt(batch);
        requireRange(hours, 1, 30);
        requireState(row.state == COMING);
        row.comes += hours;
        return row.comes;
    }

    public int make(int kind, int pieces, int priority)
            throws IndexOutOfBoundsException, IllegalArgumentException, IllegalStateException {
        Kind row = kindAt(kind);
        requireRange(pieces, 1, MOST_PIECES);
        requireRange(priority, 0, MOST_PRIORITY);
        requireState(row.operationCount > 0);
        requireState(stock.hasQueueRoom(row.operationAt(0)));
        Batch batch = stock.newBatch(row, pieces, WAITING);
        batch.priority = priority;
        return batch.number;
    }

    public boolean rank(int batch, int priority, boolean isFrozen)
            throws IndexOutOfBoundsException, IllegalArgumentException, IllegalStateException {
        Batch row = batchAt(batch);
        requireRange(priority, 0, MOST_PRIORITY);
        requireState(row.state == WAITING);
        boolean wasFrozen = row.isFrozen;
        row.priority = priority;
        row.isFrozen = isFrozen;
        return wasFrozen;
    }

    public int split(int batch, int pieces)
            throws IndexOutOfBoundsException, IllegalArgumentException, IllegalStateException {
        Batch row = batchAt(batch);
        requireArgument(pieces >= 1 && pieces < row.pieces);
        requireState(row.state == WAITING && !row.isFrozen);
        requireState(stock.hasQueueRoom(row.operationNow()));
        Batch part = stock.newBatch(row.kind, pieces, WAITING);
        part.operation = row.operation;
        part.priority = row.priority;
        part.wasSentBack = row.wasSentBack;
        part.faults = row.faults;
        part.parents = row.bit();
        part.cost = row.giveUp(pieces);
        return part.number;
    }

    public int join(int batch, int other)
            throws IndexOutOfBoundsException, IllegalArgumentException, IllegalStateException {
        Batch one = batchAt(batch);
        Batch two = batchAt(other);
        requireArgument(one != two);
        requireState(one.canJoin(two));
        Batch both = stock.newBatch(one.kind, one.pieces + two.pieces, WAITING);
        both.operation = one.operation;
        both.priority = Math.max(one.priority, two.priority);
        both.wasSentBack = one.wasSentBack || two.wasSentBack;
        both.faults = one.faults | two.faults;
        both.parents = one.bit() | two.bit();
        both.cost = one.giveUp(one.pieces) + two.giveUp(two.pieces);
        return both.number;
    }

    public int recall(int batch) throws IndexOutOfBoundsException {
        long family = stock.familyOf(batchAt(batch));
        int scrapped = 0;
        int shipped = 0;
        for (int i = 0; i < stock.batchCount; i++) {
            Batch row = stock.batches[i];
            if ((family & row.bit()) == 0) {
                continue;
            }
            if (row.state == SHIPPED) {
                shipped++;
            } else if (row.state != GONE && row.state != SCRAPPED) {
                floor.scrap(row);
                scrapped++;
            }
        }
        for (int i = 0; i < kinds.length; i++) {
            stock.cutPromises(kinds[i]);
        }
        return scrapped + 100 * shipped;
    }

    // ---- orders

    public int order(int kind, int pieces, int due)
            throws IndexOutOfBoundsException, IllegalArgumentException, IllegalStateException {
        Kind row = kindAt(kind);
        requireRange(pieces, 1, MOST_PIECES);
        requireRange(due, 0, MOST_DUE);
        int number = stock.orderCount;
        stock.putOrder(new Order(row, pieces, due));
        return number;
    }

    public int promise(int order) throws IndexOutOfBoundsException, IllegalStateException {
        Order row = orderAt(order);
        requireState(row.shipped == null);
        int more = Math.min(row.pieces - row.promised, row.kind.free());
        row.promised += more;
        row.kind.promised += more;
        return row.promised;
    }

    public int ship(int order) throws IndexOutOfBoundsException, IllegalStateException {
        Order row = orderAt(order);
        requireState(row.shipped == null && row.promised == row.pieces);
        Batch batch = stock.newBatch(row.kind, row.pieces, SHIPPED);
        batch.operation = row.kind.operationCount;
        stock.moveInto(batch, row.kind, row.pieces);
        row.kind.promised -= row.promised;
        row.shipped = batch;
        row.shippedAt = hour;
        return batch.number;
    }

    // ---- time

    public boolean stand(boolean stands) {
        boolean before = isStanding;
        isStanding = stands;
        return before;
    }

    public int run(int hours) throws IllegalArgumentException, IllegalStateException {
        requireRange(hours, 1, 50);
        requireState(hour + hours <= LAST_HOUR);
        for (int i = 0; i < hours; i++) {
            if (!isStanding) {
                floor.doHour(hour);
            }
            hour++;
        }
        return hour;
    }

    // ---- what there is; nothing from here on changes anything

    public int hour() {
        return hour;
    }

    public int batches() {
        return stock.batchCount;
    }

    public int batch(int batch, int what) throws IndexOutOfBoundsException, IllegalArgumentException {
        Batch row = batchAt(batch);
        requireRange(what, 0, 9);
        return row.tell(what);
    }

    public int parent(int batch, int place) throws IndexOutOfBoundsException, IllegalArgumentException {
        Batch row = batchAt(batch);
        requireArgument(place >= 0);
        return placed(row.parents, place);
    }

    public int origin(int batch, int place) throws IndexOutOfBoundsException, IllegalArgumentException {
        Batch row = batchAt(batch);
        requireArgument(place >= 0);
        return placed(stock.originsOf(row), place);
    }

    public int machine(int machine, int what) throws IndexOutOfBoundsException, IllegalArgumentException {
        Machine row = machineAt(machine);
        requireRange(what, 0, 5);
        return row.tell(what);
    }

    public int level(int person, int skill) throws IndexOutOfBoundsException {
        Person row = personAt(person);
        requireIndex(skill, SKILLS);
        return row.levels[skill];
    }

    public int machineOf(int person) throws IndexOutOfBoundsException {
        return personAt(person).machine;
    }

    public int store(int kind, int what) throws IndexOutOfBoundsException, IllegalArgumentException {
        Kind row = kindAt(kind);
        requireRange(what, 0, 1);
        return what == 0 ? row.inStore : row.promised;
    }

    public int queue(int work) throws IndexOutOfBoundsException {
        requireIndex(work, CLASSES);
        return stock.queueLength(work);
    }

    public int queued(int work, int place) throws IndexOutOfBoundsException, IllegalArgumentException {
        requireIndex(work, CLASSES);
        requireArgument(place >= 0);
        return stock.queuedAt(work, place);
    }

    public int told(int order, int what) throws IndexOutOfBoundsException, IllegalArgumentException {
        Order row = orderAt(order);
        requireRange(what, 0, 5);
        return row.tell(what, hour);
    }

    public int why(int batch, int machine) throws IndexOutOfBoundsException {
        Batch row = batchAt(batch);
        return floor.reasonAgainst(row, machineAt(machine), hour);
    }

    public int latest(int kind, int due)
            throws IndexOutOfBoundsException, IllegalArgumentException, IllegalStateException {
        Kind row = kindAt(kind);
        requireRange(due, 0, MOST_DUE);
        return due - leadOf(row);
    }

    public int earliest(int kind) throws IndexOutOfBoundsException, IllegalStateException {
        return hour + leadOf(kindAt(kind));
    }

    public int ledger(int what) throws IllegalArgumentException {
        requireRange(what, 0, 5);
        switch (what) {
            case 0:
                return bought;
            case 1:
                return floor.worked;
            case 2:
                return stock.costOf(COMING) + stock.costOf(WAITING) + stock.costOf(ON_MACHINE)
                        + stock.costOf(IN_STORE);
            case 3:
                return stock.costOf(SCRAPPED);
            case 4:
                return stock.costOf(SHIPPED);
            default:
                return floor.repaired;
        }
    }

    // ---- what the face asks before it does anything

    private static void requireIndex(int index, int count) {
        if (index < 0 || index >= count) {
            throw new IndexOutOfBoundsException("there is no such one");
        }
    }

    private static void requireRange(int value, int least, int most) {
        requireArgument(value >= least && value <= most);
    }

    private static void requireArgument(boolean isRight) {
        if (!isRight) {
            throw new IllegalArgumentException("an argument is out of range");
        }
    }

    private static void requireState(boolean isRight) {
        if (!isRight) {
            throw new IllegalStateException("this cannot be done now");
        }
    }

    private Kind kindAt(int kind) {
        requireIndex(kind, kinds.length);
        return kinds[kind];
    }

    private Kind kindOrNone(int kind) {
        return kind == NONE ? null : kindAt(kind);
    }

    private Machine machineAt(int machine) {
        requireIndex(machine, floor.machineCount);
        return floor.machines[machine];
    }

    private Person personAt(int person) {
        requireIndex(person, floor.personCount);
        return floor.people[person];
    }

    private Batch batchAt(int batch) {
        requireIndex(batch, stock.batchCount);
        return stock.batches[batch];
    }

    private Order orderAt(int order) {
        requireIndex(order, stock.orderCount);
        return stock.orders[order];
    }

    /**
     * The hours from beginning with the deepest parts of a kind to being done with it: both plans, backward and
     * forward, go by it. Lower kinds come first, since a line only names a lower kind; a walk down the bills
     * would come to the same kinds up to 3 times at each of 11 levels.
     */
    private int leadOf(Kind kind) {
        for (int i = 0; i <= kind.number && i < kinds.length; i++) {
            kinds[i].measureLead();
        }
        requireState(kind.lead != NONE);
        return kind.lead;
    }

    private static int placed(long bits, int place) {
        int before = 0;
        for (int i = 0; i < BATCHES; i++) {
            if ((bits >> i & 1) == 0) {
                continue;
            }
            if (before == place) {
                return i;
            }
            before++;
        }
        return NONE;
    }

    /** A kind of parts; what is in its store, and promised of that, is counted along, as each hour asks it often. */
    private static final class Kind {
        final int number;
        boolean isBought;
        int price;
        int hours;
        final Line[] lines = new Line[LINES];
        int lineCount;
        final Operation[] operations = new Operation[OPERATIONS];
        int operationCount;
        int storeSize = STORE_AT_FIRST;
        boolean wasBatched;
        int inStore;
        int promised;
        int asked;
        int lead;

        Kind(int number) {
            this.number = number;
        }

        boolean canBeMade() {
            return !isBought && !wasBatched;
        }

        int putLine(Line line) {
            if (lineCount >= lines.length) {
                throw new IllegalStateException("the bill has 3 lines");
            }
            lines[lineCount] = line;
            lineCount++;
            return lineCount;
        }

        int putOperation(Operation operation) {
            if (operationCount >= operations.length) {
                throw new IllegalStateException("the route has 4 operations");
            }
            operations[operationCount] = operation;
            operationCount++;
            return operationCount;
        }

        /** An operation of the route; null behind its end. */
        Operation operationAt(int place) {
            return place >= 0 && place < operationCount ? operations[place] : null;
        }

        boolean hasStoreRoom(int pieces) {
            return inStore + pieces <= storeSize;
        }

        int free() {
            return inStore - promised - asked;
        }

        /** Whether the lines, one after the other, find what they take; what one finds is not there for the next. */
        boolean hasPartsFor(int pieces) {
            boolean hasAll = true;
            for (int i = 0; i < lineCount; i++) {
                Kind source = lines[i].sourceFor(pieces);
                if (source == null) {
                    hasAll = false;
                } else {
                    source.asked += lines[i].needFor(pieces);
                }
            }
            for (int i = 0; i < lineCount; i++) {
                lines[i].forgetAsked();
            }
            return hasAll;
        }

        void measureLead() {
            if (isBought) {
                lead = hours;
                return;
            }
            int below = 0;
            int all = operationCount > 0 ? 0 : NONE;
            for (int i = 0; i < lineCount; i++) {
                if (lines[i].part.lead == NONE) {
                    all = NONE;
                }
                below = Math.max(below, lines[i].part.lead);
            }
            for (int i = 0; i < operationCount && all != NONE; i++) {
                all += operations[i].hours;
            }
            lead = all == NONE ? NONE : all + below;
        }
    }

    /** A line of a bill; its other kind is null if none stands in. */
    private static final class Line {
        final Kind part;
        final int many;
        final Kind other;

        Line(Kind part, int many, Kind other) {
            this.part = part;
            this.many = many;
            this.other = other;
        }

        int needFor(int pieces) {
            return many * pieces;
        }

        /** The kind of which all that is needed can be taken; null if there is none. */
        Kind sourceFor(int pieces) {
            int need = needFor(pieces);
            if (part.free() >= need) {
                return part;
            }
            return other != null && other.free() >= need ? other : null;
        }

        void forgetAsked() {
            part.asked = 0;
            if (other != null) {
                other.asked = 0;
            }
        }
    }

    private static final class Operation {
        final int work;
        final int skill;
        final int hours;

        Operation(int work, int skill, int hours) {
            this.work = work;
            this.skill = skill;
            this.hours = hours;
        }
    }

    /** Pieces that go together; faults and parents are sets of bits, by operations and by batches. */
    private static final class Batch {
        final int number;
        final Kind kind;
        int pieces;
        int cost;
        int state;
        int operation;
        int priority;
        boolean isFrozen;
        boolean wasSentBack;
        int comes = NONE;
        int faults;
        long parents;

        Batch(int number, Kind kind, int pieces, int state) {
            this.number = number;
            this.kind = kind;
            this.pieces = pieces;
            this.state = state;
        }

        long bit() {
            return 1L << number;
        }

        boolean wasBought() {
            return comes != NONE;
        }

        /** The next operation, or the one that is done; null if there is none. */
        Operation operationNow() {
            return kind.operationAt(operation);
        }

        boolean waitsFor(int work) {
            Operation next = state == WAITING ? kind.operationAt(operation) : null;
            return next != null && next.work == work;
        }

        boolean canJoin(Batch other) {
            return state == WAITING && other.state == WAITING && !isFrozen && !other.isFrozen
                    && kind == other.kind && operation == other.operation;
        }

        boolean takesParts() {
            return operation == 0 && !wasSentBack;
        }

        /** Lets pieces go with their share of the cost; rounded down, so that what stays keeps the rest. */
        int giveUp(int many) {
            if (pieces <= 0) {
                return 0;
            }
            int share = (int) ((long) cost * many / pieces);
            cost -= share;
            pieces -= many;
            if (pieces == 0) {
                state = GONE;
            }
            return share;
        }

        /** The first operation of which a fault is found at the end of the one that is done; NONE if none is. */
        int foundFault() {
            int last = kind.operationCount - 1;
            for (int i = 0; i <= operation && i <= last; i++) {
                boolean isTime = Math.min(i + OPERATIONS_TO_FIND, last) <= operation;
                if (isTime && (faults >> i & 1) != 0) {
                    return i;
                }
            }
            return NONE;
        }

        /** What was done from there on is done again, and this only once. */
        void sendBackTo(int place) {
            faults &= (1 << place) - 1;
            wasSentBack = true;
            operation = place;
        }

        int tell(int what) {
            switch (what) {
                case 0:
                    return kind.number;
                case 1:
                    return pieces;
                case 2:
                    return cost;
                case 3:
                    return state;
                case 4:
                    return operation;
                case 5:
                    return priority;
                case 6:
                    return isFrozen ? 1 : 0;
                case 7:
                    return wasSentBack ? 1 : 0;
                case 8:
                    return Long.bitCount(parents);
                default:
                    return comes;
            }
        }
    }

    /** An order; its batch is null until it is shipped. */
    private static final class Order {
        final Kind kind;
        final int pieces;
        final int due;
        int promised;
        Batch shipped;
        int shippedAt;

        Order(Kind kind, int pieces, int due) {
            this.kind = kind;
            this.pieces = pieces;
            this.due = due;
        }

        int tell(int what, int hour) {
            switch (what) {
                case 0:
                    return kind.number;
                case 1:
                    return pieces;
                case 2:
                    return due;
                case 3:
                    return promised;
                case 4:
                    return shipped == null ? NONE : shipped.number;
                default:
                    return Math.max(0, (shipped == null ? hour : shippedAt) - due);
            }
        }
    }

    /** All batches and orders that were ever made, and the sizes of the queues. */
    private static final class Stock {
        final Batch[] batches = new Batch[BATCHES];
        int batchCount;
        final Order[] orders = new Order[ORDERS];
        int orderCount;
        final int[] queueSizes = new int[CLASSES];

        Stock() {
            for (int i = 0; i < queueSizes.length; i++) {
                queueSizes[i] = QUEUE_AT_FIRST;
            }
        }

        /** Throws ahead of any change, so that a call which is refused here has changed nothing. */
        Batch newBatch(Kind kind, int pieces, int state) {
            if (batchCount >= batches.length) {
                throw new IllegalStateException("60 batches were made");
            }
            Batch batch = new Batch(batchCount, kind, pieces, state);
            batches[batchCount] = batch;
            batchCount++;
            kind.wasBatched = true;
            return batch;
        }

        void putOrder(Order order) {
            if (orderCount >= orders.length) {
                throw new IllegalStateException("there are 10 orders");
            }
            orders[orderCount] = order;
            orderCount++;
        }

        int queueLength(int work) {
            int length = 0;
            for (int i = 0; i < batchCount; i++) {
                if (batches[i].waitsFor(work)) {
                    length++;
                }
            }
            return length;
        }

        boolean hasQueueRoom(Operation operation) {
            return operation != null && queueLength(operation.work) < queueSizes[operation.work];
        }

        /** Goes down the priorities, since the queue holds its batches by these, and then by numbers. */
        int queuedAt(int work, int place) {
            int before = 0;
            for (int priority = MOST_PRIORITY; priority >= 0; priority--) {
                for (int i = 0; i < batchCount; i++) {
                    if (batches[i].priority != priority || !batches[i].waitsFor(work)) {
                        continue;
                    }
                    if (before == place) {
                        return i;
                    }
                    before++;
                }
            }
            return NONE;
        }

        void putInStore(Batch batch) {
            batch.state = IN_STORE;
            batch.kind.inStore += batch.pieces;
        }

        void letCome(int hour) {
            for (int i = 0; i < batchCount; i++) {
                Batch batch = batches[i];
                if (batch.state == COMING && batch.comes <= hour && batch.kind.hasStoreRoom(batch.pieces)) {
                    batch.comes = hour;
                    putInStore(batch);
                }
            }
        }

        /** Takes pieces of a kind out of its store, by rising batches, and returns what they cost. */
        int take(Kind kind, int many) {
            int left = many;
            int cost = 0;
            for (int i = 0; i < batchCount && left > 0; i++) {
                Batch batch = batches[i];
                if (batch.kind == kind && batch.state == IN_STORE) {
                    int some = Math.min(left, batch.pieces);
                    cost += batch.giveUp(some);
                    left -= some;
                }
            }
            kind.inStore -= many - left;
            return cost;
        }

        /** The batches, as bits, out of which take would take so many pieces. */
        long sourcesOf(Kind kind, int many) {
            int left = many;
            long sources = 0;
            for (int i = 0; i < batchCount && left > 0; i++) {
                Batch batch = batches[i];
                if (batch.kind == kind && batch.state == IN_STORE) {
                    sources |= batch.bit();
                    left -= batch.pieces;
                }
            }
            return sources;
        }

        void moveInto(Batch into, Kind kind, int many) {
            into.parents |= sourcesOf(kind, many);
            into.cost += take(kind, many);
        }

        /** A batch and all that stem from it; in rounds, since a batch can have a parent of a higher number. */
        long familyOf(Batch batch) {
            long family = batch.bit();
            for (int round = 0; round < batchCount; round++) {
                long before = family;
                for (int i = 0; i < batchCount; i++) {
                    if ((batches[i].parents & family) != 0) {
                        family |= batches[i].bit();
                    }
                }
                if (family == before) {
                    break;
                }
            }
            return family;
        }

        long originsOf(Batch batch) {
            long all = batch.bit();
            for (int round = 0; round < batchCount; round++) {
                long before = all;
                for (int i = 0; i < batchCount; i++) {
                    if ((batches[i].bit() & all) != 0) {
                        all |= batches[i].parents;
                    }
                }
                if (all == before) {
                    break;
                }
            }
            long origins = 0;
            for (int i = 0; i < batchCount; i++) {
                if (batches[i].wasBought()) {
                    origins |= batches[i].bit() & all;
                }
            }
            return origins;
        }

        /** Only a recall takes away pieces that are promised: then the last orders lose what is too much. */
        void cutPromises(Kind kind) {
            for (int i = orderCount - 1; i >= 0; i--) {
                Order order = orders[i];
                int tooMuch = kind.promised - kind.inStore;
                if (tooMuch > 0 && order.kind == kind && order.shipped == null) {
                    int lost = Math.min(order.promised, tooMuch);
                    order.promised -= lost;
                    kind.promised -= lost;
                }
            }
        }

        int costOf(int state) {
            int cost = 0;
            for (int i = 0; i < batchCount; i++) {
                if (batches[i].state == state) {
                    cost += batches[i].cost;
                }
            }
            return cost;
        }
    }

    /** A machine; its batch and its person are there together or not at all. */
    private static final class Machine {
        final int number;
        final int classes;
        final int setUp;
        final int cost;
        final int limit;
        final int repair;
        final Kind part;
        Batch batch;
        Person person;
        int left;
        boolean isDrawn;
        int wear;
        Kind lastKind;
        int repairState = NO_REPAIR;
        int repairLeft;

        Machine(int number, int classes, int setUp, int cost, int limit, int repair, Kind part) {
            this.number = number;
            this.classes = classes;
            this.setUp = setUp;
            this.cost = cost;
            this.limit = limit;
            this.repair = repair;
            this.part = part;
        }

        boolean canDo(Operation operation) {
            return (classes >> operation.work & 1) != 0;
        }

        boolean isReady() {
            return batch == null && repairState == NO_REPAIR;
        }

        void begin(Batch taken, Operation operation, Person by) {
            left = Math.max(1, operation.hours - by.levels[operation.skill] + 1);
            if (lastKind != taken.kind) {
                left += setUp;
            }
            isDrawn = false;
            lastKind = taken.kind;
            batch = taken;
            batch.state = ON_MACHINE;
            person = by;
            person.machine = number;
        }

        /** What follows when the batch has left, wherever it went. */
        void letGo() {
            if (person != null) {
                person.machine = NONE;
            }
            batch = null;
            person = null;
            left = 0;
            if (wear >= limit) {
                repairState = REPAIR_NEEDED;
            }
        }

        boolean drawsFault(int hour) {
            if (batch == null || limit <= 0) {
                return false;
            }
            int draw = (7 * batch.number + 5 * batch.operation + 3 * hour) % 11;
            return draw < 4 * wear / limit;
        }

        void beginRepair() {
            repairState = REPAIR_BEGUN;
            repairLeft = repair;
        }

        void repairHour() {
            repairLeft--;
            if (repairLeft <= 0) {
                wear = 0;
                repairState = NO_REPAIR;
            }
        }

        int tell(int what) {
            switch (what) {
                case 0:
                    return batch == null ? NONE : batch.number;
                case 1:
                    return left;
                case 2:
                    return person == null ? NONE : person.number;
                case 3:
                    return wear;
                case 4:
                    return lastKind == null ? NONE : lastKind.number;
                default:
                    return repairState;
            }
        }
    }

    private static final class Person {
        final int number;
        final int wage;
        final int begin;
        final int hours;
        final int[] levels = new int[SKILLS];
        final int[] worked = new int[SKILLS];
        int machine = NONE;

        Person(int number, int wage, int begin, int hours) {
            this.number = number;
            this.wage = wage;
            this.begin = begin;
            this.hours = hours;
        }

        boolean isOnShift(int hour) {
            return Math.floorMod(hour - begin, DAY) < hours;
        }

        boolean canBegin(int skill, int hour) {
            return machine == NONE && levels[skill] > 0 && isOnShift(hour);
        }

        void reach(int skill, int level) {
            levels[skill] = level;
            worked[skill] = 0;
        }

        void learnHour(int skill) {
            worked[skill]++;
            if (worked[skill] >= HOURS_TO_LEARN && levels[skill] < TOP_LEVEL) {
                reach(skill, levels[skill] + 1);
            }
        }
    }

    /** The machines and the people, and what they do in an hour. */
    private static final class Floor {
        final Stock stock = new Stock();
        final Machine[] machines = new Machine[MACHINES];
        int machineCount;
        final Person[] people = new Person[PEOPLE];
        int personCount;
        int worked;
        int repaired;

        void putMachine(Machine machine) {
            if (machineCount >= machines.length) {
                throw new IllegalStateException("there are 6 machines");
            }
            machines[machineCount] = machine;
            machineCount++;
        }

        void putPerson(Person person) {
            if (personCount >= people.length) {
                throw new IllegalStateException("there are 6 people");
            }
            people[personCount] = person;
            personCount++;
        }

        void doHour(int hour) {
            stock.letCome(hour);
            for (int i = 0; i < machineCount; i++) {
                workAt(machines[i], hour);
            }
            for (int i = 0; i < machineCount; i++) {
                repairAt(machines[i]);
            }
            for (int i = 0; i < machineCount; i++) {
                takeBatchAt(machines[i], hour);
            }
        }

        private void workAt(Machine machine, int hour) {
            Batch batch = machine.batch;
            Person person = machine.person;
            if (batch == null || person == null) {
                return;
            }
            if (machine.left > 0 && person.isOnShift(hour)) {
                workHour(machine, batch, person);
            }
            if (machine.left > 0) {
                return;
            }
            if (!machine.isDrawn) {
                machine.isDrawn = true;
                if (machine.drawsFault(hour)) {
                    batch.faults |= 1 << batch.operation;
                }
            }
            if (hasLeft(batch)) {
                machine.letGo();
            }
        }

        private void workHour(Machine machine, Batch batch, Person person) {
            int cost = machine.cost + person.wage;
            machine.left--;
            machine.wear++;
            batch.cost += cost;
            worked += cost;
            Operation operation = batch.operationNow();
            if (operation != null) {
                person.learnHour(operation.skill);
            }
        }

        /** Sends a batch, whose operation is done, to where it goes; false if there is no room. */
        private boolean hasLeft(Batch batch) {
            int fault = batch.foundFault();
            if (fault != NONE && batch.wasSentBack) {
                batch.state = SCRAPPED;
                return true;
            }
            Operation next = batch.kind.operationAt(fault != NONE ? fault : batch.operation + 1);
            if (next == null) {
                if (!batch.kind.hasStoreRoom(batch.pieces)) {
                    return false;
                }
                stock.putInStore(batch);
            } else {
                if (!stock.hasQueueRoom(next)) {
                    return false;
                }
                batch.state = WAITING;
            }
            if (fault != NONE) {
                batch.sendBackTo(fault);
            } else {
                batch.operation++;
            }
            return true;
        }

        private void repairAt(Machine machine) {
            if (machine.repairState == REPAIR_BEGUN) {
                machine.repairHour();
            } else if (machine.repairState == REPAIR_NEEDED) {
                if (machine.part == null) {
                    machine.beginRepair();
                } else if (machine.part.free() >= 1) {
                    repaired += stock.take(machine.part, 1);
                    machine.beginRepair();
                }
            }
        }

        private void takeBatchAt(Machine machine, int hour) {
            if (!machine.isReady()) {
                return;
            }
            Batch best = null;
            for (int i = 0; i < stock.batchCount; i++) {
                Batch batch = stock.batches[i];
                boolean isBetter = best == null || batch.priority > best.priority;
                if (isBetter && reasonAgainst(batch, machine, hour) == CAN_BEGIN) {
                    best = batch;
                }
            }
            if (best != null) {
                begin(best, machine, hour);
            }
        }

        int reasonAgainst(Batch batch, Machine machine, int hour) {
            Operation operation = batch.operationNow();
            if (batch.state != WAITING || operation == null) {
                return WAITS_NOT;
            }
            if (batch.isFrozen) {
                return IS_FROZEN;
            }
            if (!machine.canDo(operation)) {
                return OTHER_CLASS;
            }
            if (!machine.isReady()) {
                return MACHINE_BUSY;
            }
            if (personFor(operation, hour) == null) {
                return NO_PERSON;
            }
            return batch.takesParts() && !batch.kind.hasPartsFor(batch.pieces) ? PARTS_LACKING : CAN_BEGIN;
        }

        private Person personFor(Operation operation, int hour) {
            int skill = operation.skill;
            Person best = null;
            for (int i = 0; i < personCount; i++) {
                Person person = people[i];
                boolean isBetter = best == null || person.levels[skill] > best.levels[skill];
                if (isBetter && person.canBegin(skill, hour)) {
                    best = person;
                }
            }
            return best;
        }

        private void begin(Batch batch, Machine machine, int hour) {
            Operation operation = batch.operationNow();
            Person person = operation == null ? null : personFor(operation, hour);
            if (person == null) {
                return;
            }
            if (batch.takesParts()) {
                takeParts(batch);
            }
            machine.begin(batch, operation, person);
        }

        /** Each line finds here what it found when it was asked: the lines before it have taken just that. */
        private void takeParts(Batch batch) {
            for (int i = 0; i < batch.kind.lineCount; i++) {
                Line line = batch.kind.lines[i];
                Kind source = line.sourceFor(batch.pieces);
                if (source != null) {
                    stock.moveInto(batch, source, line.needFor(batch.pieces));
                }
            }
        }

        void scrap(Batch batch) {
            if (batch.state == IN_STORE) {
                batch.kind.inStore -= batch.pieces;
            }
            batch.state = SCRAPPED;
            for (int i = 0; i < machineCount; i++) {
                if (machines[i].batch == batch) {
                    machines[i].letGo();
                }
            }
        }
    }
}
