/** All that the face tells of a factory, as a text, so that two factories, or one at two times, can be compared. */
final class Sight {
    private static final int KINDS = 12;
    private static final int CLASSES = 4;
    private static final int SKILLS = 4;
    private static final int MACHINES = 6;
    private static final int PEOPLE = 6;
    private static final int ORDERS = 10;
    private static final int MOST = 60;
    private static final String NONE = "-1";
    private static final String NO_SUCH = "IndexOutOfBoundsException";

    private final Object factory;
    private final StringBuilder text = new StringBuilder();

    private Sight(Object factory) {
        this.factory = factory;
    }

    static String of(Object factory) {
        Sight sight = new Sight(factory);
        sight.text.append("hour ").append(Calls.ask(factory, "hour"));
        sight.addAll("ledger", 6);
        sight.addKinds();
        sight.addQueues();
        sight.addBatches();
        sight.addFloor();
        sight.addOrders();
        return sight.text.toString();
    }

    private void add(String name, int... arguments) {
        text.append(' ').append(Calls.ask(factory, name, arguments));
    }

    private void addAll(String name, int whats) {
        text.append(' ').append(name);
        for (int what = 0; what < whats; what++) {
            add(name, what);
        }
    }

    /** Adds what stands at each place of a list, up to its end, which a broken factory might not have. */
    private void addPlaces(String name, int of) {
        text.append(' ').append(name);
        for (int place = 0; place <= MOST && !Calls.ask(factory, name, of, place).equals(NONE); place++) {
            add(name, of, place);
        }
    }

    /** Adds all that is told of each of so many rows, up to the last one that there is. */
    private void addRows(String name, int rows, int whats) {
        for (int row = 0; row < rows && !Calls.ask(factory, name, row, 0).equals(NO_SUCH); row++) {
            text.append("\n    ").append(name).append(' ').append(row).append(':');
            for (int what = 0; what < whats; what++) {
                add(name, row, what);
            }
        }
    }

    private void addKinds() {
        for (int kind = 0; kind < KINDS; kind++) {
            text.append("\n    kind ").append(kind).append(':');
            add("store", kind, 0);
            add("store", kind, 1);
            add("latest", kind, 0);
            add("earliest", kind);
        }
    }

    private void addQueues() {
        for (int work = 0; work < CLASSES; work++) {
            text.append("\n    class ").append(work).append(':');
            add("queue", work);
            addPlaces("queued", work);
        }
    }

    private void addBatches() {
        int batches = Integer.parseInt(Calls.ask(factory, "batches"));
        addRows("batch", batches, 10);
        for (int batch = 0; batch < batches; batch++) {
            text.append("\n    made of, batch ").append(batch).append(':');
            addPlaces("parent", batch);
            addPlaces("origin", batch);
            text.append(" why");
            for (int machine = 0; machine < MACHINES; machine++) {
                add("why", batch, machine);
            }
        }
    }

    private void addFloor() {
        addRows("machine", MACHINES, 6);
        addRows("level", PEOPLE, SKILLS);
        for (int person = 0; person < PEOPLE; person++) {
            add("machineOf", person);
        }
    }

    private void addOrders() {
        addRows("told", ORDERS, 6);
    }
}
