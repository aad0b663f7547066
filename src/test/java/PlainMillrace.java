import java.util.ArrayList;
import java.util.List;
import java.util.Set;
import java.util.TreeSet;

/**
 * The document once more, sentence by sentence, with the Java library, no counts that are carried along and no care
 * for speed: what AgreementTest holds Millrace against. It shares no code with it.
 */
final class PlainMillrace {
    private static final class Kind {
        boolean bought;
        int price;
        int time;
        final List<int[]> lines = new ArrayList<>();
        final List<int[]> route = new ArrayList<>();
        int store = 20;

        boolean made() {
            return !route.isEmpty();
        }
    }

    private static final class Batch {
        int kind;
        int pieces;
        int cost;
        int what;
        int at;
        int priority;
        boolean frozen;
        boolean back;
        int comes = -1;
        Set<Integer> faults = new TreeSet<>();
        Set<Integer> parents = new TreeSet<>();
    }

    private static final class Machine {
        int classes;
        int setUp;
        int cost;
        int limit;
        int repair;
        int part;
        int batch = -1;
        int left;
        int person = -1;
        int wear;
        int kind = -1;
        int broken;
        int repairLeft;
        boolean drawn;
    }

    private static final class Person {
        int wage;
        int begin;
        int hours;
        final int[] level = new int[4];
        final int[] worked = new int[4];
    }

    private static final class Order {
        int kind;
        int pieces;
        int due;
        int promised;
        int batch = -1;
        int shippedAt;
    }

    private final List<Kind> kinds = new ArrayList<>();
    private final int[] queues = {9, 9, 9, 9};
    private final List<Batch> batches = new ArrayList<>();
    private final List<Machine> machines = new ArrayList<>();
    private final List<Person> people = new ArrayList<>();
    private final List<Order> orders = new ArrayList<>();
    private int now;
    private boolean still;
    private int bought;
    private int worked;
    private int repaired;

    PlainMillrace() {
        for (int i = 0; i < 12; i++) {
            kinds.add(new Kind());
        }
    }

    private static void index(boolean isThere) {
        if (!isThere) {
            throw new IndexOutOfBoundsException();
        }
    }

    private static void argument(boolean isRight) {
        if (!isRight) {
            throw new IllegalArgumentException();
        }
    }

    private static void state(boolean isRight) {
        if (!isRight) {
            throw new IllegalStateException();
        }
    }

    private static boolean in(int value, int least, int most) {
        return least <= value && value <= most;
    }

    private boolean everMade(int kind) {
        for (Batch b : batches) {
            if (b.kind == kind) {
                return true;
            }
        }
        return false;
    }

    void setBought(int kind, int price, int hours) {
        index(in(kind, 0, 11));
        argument(in(price, 1, 99) && in(hours, 0, 30));
        Kind k = kinds.get(kind);
        state(!everMade(kind) && k.lines.isEmpty() && k.route.isEmpty());
        k.bought = true;
        k.price = price;
        k.time = hours;
    }

    int addLine(int kind, int part, int many, int other) {
        index(in(kind, 0, 11) && in(part, 0, 11) && in(other, -1, 11));
        argument(part < kind && other < kind && part != other && in(many, 1, 3));
        Kind k = kinds.get(kind);
        state(!everMade(kind) && !k.bought && k.lines.size() < 3);
        k.lines.add(new int[] {part, many, other});
        return k.lines.size();
    }

    int addOperation(int kind, int work, int skill, int hours) {
        index(in(kind, 0, 11) && in(work, 0, 3) && in(skill, 0, 3));
        argument(in(hours, 1, 9));
        Kind k = kinds.get(kind);
        state(!everMade(kind) && !k.bought && k.route.size() < 4);
        k.route.add(new int[] {work, skill, hours});
        return k.route.size();
    }

    int setStore(int kind, int size) {
        index(in(kind, 0, 11));
        argument(in(size, 0, 99));
        int before = kinds.get(kind).store;
        kinds.get(kind).store = size;
        return before;
    }

    int setQueue(int work, int size) {
        index(in(work, 0, 3));
        argument(in(size, 0, 60));
        int before = queues[work];
        queues[work] = size;
        return before;
    }

    int addMachine(int classes, int setUp, int cost, int limit, int repair, int part) {
        index(in(part, -1, 11));
        argument(in(classes, 1, 15) && in(setUp, 0, 5) && in(cost, 0, 9) && in(limit, 1, 50) && in(repair, 1, 9));
        state(machines.size() < 6);
        Machine m = new Machine();
        m.classes = classes;
        m.setUp = setUp;
        m.cost = cost;
        m.limit = limit;
        m.repair = repair;
        m.part = part;
        machines.add(m);
        return machines.size() - 1;
    }

    int addPerson(int wage, int begin, int hours) {
        argument(in(wage, 0, 9) && in(begin, 0, 23) && in(hours, 1, 24));
        state(people.size() < 6);
        Person p = new Person();
        p.wage = wage;
        p.begin = begin;
        p.hours = hours;
        people.add(p);
        return people.size() - 1;
    }

    int setLevel(int person, int skill, int level) {
        index(in(person, 0, people.size() - 1) && in(skill, 0, 3));
        argument(in(level, 0, 3));
        Person p = people.get(person);
        int before = p.level[skill];
        p.level[skill] = level;
        p.worked[skill] = 0;
        return before;
    }

    private int begun(int kind, int pieces, int what) {
        Batch b = new Batch();
        b.kind = kind;
        b.pieces = pieces;
        b.what = what;
        batches.add(b);
        return batches.size() - 1;
    }

    int buy(int kind, int pieces) {
        index(in(kind, 0, 11));
        argument(in(pieces, 1, 20));
        state(kinds.get(kind).bought && batches.size() < 60);
        int number = begun(kind, pieces, 0);
        batches.get(number).cost = pieces * kinds.get(kind).price;
        batches.get(number).comes = now + kinds.get(kind).time;
        bought += pieces * kinds.get(kind).price;
        return number;
    }

    int late(int batch, int hours) {
        index(in(batch, 0, batches.size() - 1));
        argument(in(hours, 1, 30));
        state(batches.get(batch).what == 0);
        return batches.get(batch).comes += hours;
    }

    private int classOf(Batch b) {
        return kinds.get(b.kind).route.get(b.at)[0];
    }

    private int waiting(int work) {
        int n = 0;
        for (Batch b : batches) {
            n += b.what == 1 && classOf(b) == work ? 1 : 0;
        }
        return n;
    }

    private boolean room(int work) {
        return waiting(work) < queues[work];
    }

    int make(int kind, int pieces, int priority) {
        index(in(kind, 0, 11));
        argument(in(pieces, 1, 20) && in(priority, 0, 9));
        Kind k = kinds.get(kind);
        state(k.made() && room(k.route.get(0)[0]) && batches.size() < 60);
        int number = begun(kind, pieces, 1);
        batches.get(number).priority = priority;
        return number;
    }

    boolean rank(int batch, int priority, boolean isFrozen) {
        index(in(batch, 0, batches.size() - 1));
        argument(in(priority, 0, 9));
        Batch b = batches.get(batch);
        state(b.what == 1);
        boolean was = b.frozen;
        b.priority = priority;
        b.frozen = isFrozen;
        return was;
    }

    /** Takes pieces from one batch, and the cost with them. */
    private int takeFrom(Batch b, int pieces) {
        int cost = b.cost * pieces / b.pieces;
        b.cost -= cost;
        b.pieces -= pieces;
        if (b.pieces == 0) {
            b.what = 4;
        }
        return cost;
    }

    int split(int batch, int pieces) {
        index(in(batch, 0, batches.size() - 1));
        Batch b = batches.get(batch);
        argument(pieces >= 1 && b.pieces > pieces);
        state(b.what == 1 && !b.frozen && room(classOf(b)) && batches.size() < 60);
        int number = begun(b.kind, pieces, 1);
        Batch n = batches.get(number);
        n.cost = takeFrom(b, pieces);
        n.at = b.at;
        n.priority = b.priority;
        n.back = b.back;
        n.faults.addAll(b.faults);
        n.parents.add(batch);
        return number;
    }

    int join(int batch, int other) {
        index(in(batch, 0, batches.size() - 1) && in(other, 0, batches.size() - 1));
        argument(batch != other);
        Batch a = batches.get(batch);
        Batch b = batches.get(other);
        state(a.what == 1 && b.what == 1 && a.kind == b.kind && a.at == b.at && !a.frozen && !b.frozen
                && batches.size() < 60);
        int number = begun(a.kind, a.pieces + b.pieces, 1);
        Batch n = batches.get(number);
        n.cost = takeFrom(a, a.pieces) + takeFrom(b, b.pieces);
        n.at = a.at;
        n.priority = Math.max(a.priority, b.priority);
        n.back = a.back || b.back;
        n.faults.addAll(a.faults);
        n.faults.addAll(b.faults);
        n.parents.add(batch);
        n.parents.add(other);
        return number;
    }

    private void addChildren(int batch, Set<Integer> family) {
        if (!family.add(batch)) {
            return;
        }
        for (int i = 0; i < batches.size(); i++) {
            if (batches.get(i).parents.contains(batch)) {
                addChildren(i, family);
            }
        }
    }

    int recall(int batch) {
        index(in(batch, 0, batches.size() - 1));
        Set<Integer> family = new TreeSet<>();
        addChildren(batch, family);
        int answer = 0;
        for (int i : family) {
            Batch b = batches.get(i);
            if (b.what == 6) {
                answer += 100;
            } else if (b.what <= 3) {
                b.what = 5;
                answer++;
            }
        }
        for (Machine m : machines) {
            if (m.batch >= 0 && batches.get(m.batch).what == 5) {
                leave(m);
            }
        }
        for (int kind = 0; kind < 12; kind++) {
            for (int i = orders.size() - 1; i >= 0; i--) {
                Order o = orders.get(i);
                while (o.kind == kind && o.batch < 0 && o.promised > 0 && promised(kind) > inStore(kind)) {
                    o.promised--;
                }
            }
        }
        return answer;
    }

    private int inStore(int kind) {
        int n = 0;
        for (Batch b : batches) {
            n += b.kind == kind && b.what == 3 ? b.pieces : 0;
        }
        return n;
    }

    private int promised(int kind) {
        int n = 0;
        for (Order o : orders) {
            n += o.kind == kind && o.batch < 0 ? o.promised : 0;
        }
        return n;
    }

    int order(int kind, int pieces, int due) {
        index(in(kind, 0, 11));
        argument(in(pieces, 1, 20) && in(due, 0, 999));
        state(orders.size() < 10);
        Order o = new Order();
        o.kind = kind;
        o.pieces = pieces;
        o.due = due;
        orders.add(o);
        return orders.size() - 1;
    }

    int promise(int order) {
        index(in(order, 0, orders.size() - 1));
        Order o = orders.get(order);
        state(o.batch < 0);
        while (o.promised < o.pieces && promised(o.kind) < inStore(o.kind)) {
            o.promised++;
        }
        return o.promised;
    }

    /** Takes pieces of a kind from the store, for a batch, or for none. */
    private int take(int kind, int pieces, Batch into) {
        int cost = 0;
        for (int i = 0; i < batches.size(); i++) {
            Batch b = batches.get(i);
            if (b.kind == kind && b.what == 3 && pieces > 0) {
                int some = Math.min(pieces, b.pieces);
                pieces -= some;
                cost += takeFrom(b, some);
                if (into != null) {
                    into.parents.add(i);
                }
            }
        }
        return cost;
    }

    int ship(int order) {
        index(in(order, 0, orders.size() - 1));
        Order o = orders.get(order);
        state(o.batch < 0 && o.promised == o.pieces && batches.size() < 60);
        int number = begun(o.kind, o.pieces, 6);
        Batch n = batches.get(number);
        n.cost = take(o.kind, o.pieces, n);
        n.at = kinds.get(o.kind).route.size();
        o.batch = number;
        o.shippedAt = now;
        return number;
    }

    boolean stand(boolean stands) {
        boolean was = still;
        still = stands;
        return was;
    }

    int run(int hours) {
        argument(in(hours, 1, 50));
        state(now + hours <= 2000);
        for (int i = 0; i < hours; i++) {
            if (!still) {
                comeIn();
                for (Machine m : machines) {
                    if (m.batch >= 0) {
                        work(m);
                    }
                }
                for (Machine m : machines) {
                    mend(m);
                }
                for (int m = 0; m < machines.size(); m++) {
                    takeUp(m);
                }
            }
            now++;
        }
        return now;
    }

    private boolean storeRoom(Batch b) {
        return inStore(b.kind) + b.pieces <= kinds.get(b.kind).store;
    }

    private void comeIn() {
        for (Batch b : batches) {
            if (b.what == 0 && b.comes <= now && storeRoom(b)) {
                b.what = 3;
                b.comes = now;
            }
        }
    }

    private boolean onShift(Person p) {
        int ofDay = now % 24;
        for (int i = 0; i < p.hours; i++) {
            if ((p.begin + i) % 24 == ofDay) {
                return true;
            }
        }
        return false;
    }

    private void work(Machine m) {
        Batch b = batches.get(m.batch);
        Person p = people.get(m.person);
        List<int[]> route = kinds.get(b.kind).route;
        if (m.left > 0 && onShift(p)) {
            m.left--;
            b.cost += m.cost + p.wage;
            worked += m.cost + p.wage;
            m.wear++;
            int skill = route.get(b.at)[1];
            p.worked[skill]++;
            if (p.worked[skill] == 8 && p.level[skill] < 3) {
                p.level[skill]++;
                p.worked[skill] = 0;
            }
        }
        if (m.left > 0) {
            return;
        }
        if (!m.drawn && (7 * m.batch + 5 * b.at + 3 * now) % 11 < 4 * m.wear / m.limit) {
            b.faults.add(b.at);
        }
        m.drawn = true;
        int last = route.size() - 1;
        for (int fault : b.faults) {
            int found = fault + 2 < last ? fault + 2 : last;
            if (found == b.at) {
                if (b.back) {
                    b.what = 5;
                    leave(m);
                } else if (room(route.get(fault)[0])) {
                    Set<Integer> kept = new TreeSet<>();
                    for (int other : b.faults) {
                        if (other < fault) {
                            kept.add(other);
                        }
                    }
                    b.faults = kept;
                    b.at = fault;
                    b.back = true;
                    b.what = 1;
                    leave(m);
                }
                return;
            }
        }
        if (b.at == last && storeRoom(b)) {
            b.what = 3;
        } else if (b.at < last && room(route.get(b.at + 1)[0])) {
            b.what = 1;
        } else {
            return;
        }
        b.at++;
        leave(m);
    }

    private void leave(Machine m) {
        m.batch = -1;
        m.person = -1;
        m.left = 0;
        if (m.wear >= m.limit) {
            m.broken = 1;
        }
    }

    private void mend(Machine m) {
        if (m.broken == 2) {
            m.repairLeft--;
            if (m.repairLeft == 0) {
                m.wear = 0;
                m.broken = 0;
            }
        } else if (m.broken == 1) {
            if (m.part == -1 || inStore(m.part) - promised(m.part) >= 1) {
                m.broken = 2;
                m.repairLeft = m.repair;
                repaired += m.part == -1 ? 0 : take(m.part, 1, null);
            }
        }
    }

    private void takeUp(int number) {
        Machine m = machines.get(number);
        int best = -1;
        for (int i = 0; i < batches.size(); i++) {
            if (why(i, number) == 0 && (best < 0 || batches.get(i).priority > batches.get(best).priority)) {
                best = i;
            }
        }
        if (best < 0) {
            return;
        }
        Batch b = batches.get(best);
        int[] operation = kinds.get(b.kind).route.get(b.at);
        int person = someoneFor(operation[1]);
        if (b.at == 0 && !b.back) {
            for (int[] part : parts(b)) {
                b.cost += take(part[0], part[1], b);
            }
        }
        int hours = operation[2] - people.get(person).level[operation[1]] + 1;
        m.left = (hours < 1 ? 1 : hours) + (m.kind == b.kind ? 0 : m.setUp);
        m.drawn = false;
        m.kind = b.kind;
        m.batch = best;
        m.person = person;
        b.what = 2;
    }

    private int someoneFor(int skill) {
        for (int level = 3; level > 0; level--) {
            for (int i = 0; i < people.size(); i++) {
                if (people.get(i).level[skill] == level && onShift(people.get(i)) && machineOf(i) < 0) {
                    return i;
                }
            }
        }
        return -1;
    }

    /** What the lines take, as kinds and pieces; null if it is not there. */
    private List<int[]> parts(Batch b) {
        int[] free = new int[12];
        for (int kind = 0; kind < 12; kind++) {
            free[kind] = inStore(kind) - promised(kind);
        }
        List<int[]> parts = new ArrayList<>();
        for (int[] line : kinds.get(b.kind).lines) {
            int need = line[1] * b.pieces;
            int kind = line[0];
            if (free[kind] < need) {
                kind = line[2];
            }
            if (kind < 0 || free[kind] < need) {
                return null;
            }
            free[kind] -= need;
            parts.add(new int[] {kind, need});
        }
        return parts;
    }

    int hour() {
        return now;
    }

    int batches() {
        return batches.size();
    }

    int batch(int batch, int what) {
        index(in(batch, 0, batches.size() - 1));
        argument(in(what, 0, 9));
        Batch b = batches.get(batch);
        int[] told = {b.kind, b.pieces, b.cost, b.what, b.at, b.priority, b.frozen ? 1 : 0, b.back ? 1 : 0,
            b.parents.size(), b.comes};
        return told[what];
    }

    private static int at(Set<Integer> numbers, int place) {
        List<Integer> list = new ArrayList<>(numbers);
        return place < list.size() ? list.get(place) : -1;
    }

    int parent(int batch, int place) {
        index(in(batch, 0, batches.size() - 1));
        argument(place >= 0);
        return at(batches.get(batch).parents, place);
    }

    private void addOrigins(int batch, Set<Integer> seen, Set<Integer> origins) {
        if (!seen.add(batch)) {
            return;
        }
        if (batches.get(batch).comes >= 0) {
            origins.add(batch);
        }
        for (int parent : batches.get(batch).parents) {
            addOrigins(parent, seen, origins);
        }
    }

    int origin(int batch, int place) {
        index(in(batch, 0, batches.size() - 1));
        argument(place >= 0);
        Set<Integer> origins = new TreeSet<>();
        addOrigins(batch, new TreeSet<>(), origins);
        return at(origins, place);
    }

    int machine(int machine, int what) {
        index(in(machine, 0, machines.size() - 1));
        argument(in(what, 0, 5));
        Machine m = machines.get(machine);
        int[] told = {m.batch, m.left, m.person, m.wear, m.kind, m.broken};
        return told[what];
    }

    int level(int person, int skill) {
        index(in(person, 0, people.size() - 1) && in(skill, 0, 3));
        return people.get(person).level[skill];
    }

    int machineOf(int person) {
        index(in(person, 0, people.size() - 1));
        for (int i = 0; i < machines.size(); i++) {
            if (machines.get(i).person == person) {
                return i;
            }
        }
        return -1;
    }

    int store(int kind, int what) {
        index(in(kind, 0, 11));
        argument(in(what, 0, 1));
        return what == 0 ? inStore(kind) : promised(kind);
    }

    int queue(int work) {
        index(in(work, 0, 3));
        return waiting(work);
    }

    int queued(int work, int place) {
        index(in(work, 0, 3));
        argument(place >= 0);
        List<Integer> queue = new ArrayList<>();
        for (int i = 0; i < batches.size(); i++) {
            if (batches.get(i).what == 1 && classOf(batches.get(i)) == work) {
                queue.add(i);
            }
        }
        queue.sort((a, b) -> batches.get(b).priority - batches.get(a).priority);
        return place < queue.size() ? queue.get(place) : -1;
    }

    int told(int order, int what) {
        index(in(order, 0, orders.size() - 1));
        argument(in(what, 0, 5));
        Order o = orders.get(order);
        int by = o.batch < 0 ? now : o.shippedAt;
        int[] told = {o.kind, o.pieces, o.due, o.promised, o.batch, by > o.due ? by - o.due : 0};
        return told[what];
    }

    int why(int batch, int machine) {
        index(in(batch, 0, batches.size() - 1) && in(machine, 0, machines.size() - 1));
        Batch b = batches.get(batch);
        Machine m = machines.get(machine);
        if (b.what != 1) {
            return 1;
        }
        if (b.frozen) {
            return 2;
        }
        int[] operation = kinds.get(b.kind).route.get(b.at);
        if ((m.classes & 1 << operation[0]) == 0) {
            return 3;
        }
        if (m.batch >= 0 || m.broken != 0) {
            return 4;
        }
        if (someoneFor(operation[1]) < 0) {
            return 5;
        }
        return b.at == 0 && !b.back && parts(b) == null ? 6 : 0;
    }

    private static final long NOTHING = Long.MIN_VALUE;

    int latest(int kind, int due) {
        index(in(kind, 0, 11));
        argument(in(due, 0, 999));
        long hour = latestOf(kind, due);
        state(hour != NOTHING);
        return (int) hour;
    }

    private long latestOf(int kind, int due) {
        Kind k = kinds.get(kind);
        if (k.bought) {
            return due - k.time;
        }
        if (!k.made()) {
            return NOTHING;
        }
        int b = due;
        for (int[] operation : k.route) {
            b -= operation[2];
        }
        long least = b;
        for (int[] line : k.lines) {
            least = Math.min(least, latestOf(line[0], b));
        }
        return least;
    }

    int earliest(int kind) {
        index(in(kind, 0, 11));
        long hour = earliestOf(kind);
        state(hour != NOTHING);
        return (int) hour;
    }

    private long earliestOf(int kind) {
        Kind k = kinds.get(kind);
        if (k.bought) {
            return now + k.time;
        }
        if (!k.made()) {
            return NOTHING;
        }
        long done = now;
        for (int[] line : k.lines) {
            long part = earliestOf(line[0]);
            if (part == NOTHING) {
                return NOTHING;
            }
            done = Math.max(done, part);
        }
        for (int[] operation : k.route) {
            done += operation[2];
        }
        return done;
    }

    int ledger(int what) {
        argument(in(what, 0, 5));
        int inFactory = 0;
        int scrapped = 0;
        int shipped = 0;
        for (Batch b : batches) {
            inFactory += b.what <= 3 ? b.cost : 0;
            scrapped += b.what == 5 ? b.cost : 0;
            shipped += b.what == 6 ? b.cost : 0;
        }
        int[] told = {bought, worked, inFactory, scrapped, shipped, repaired};
        return told[what];
    }
}
