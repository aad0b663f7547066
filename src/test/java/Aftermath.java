/**
 * What comes of a factory when it is put always the same calls, as a text. It shows what Sight does not: sizes, prices,
 * bills, hours that people worked, faults that are not found yet. It changes the factory.
 */
final class Aftermath {
    private static final int ROUNDS = 4;
    private static final int KINDS = 12;
    private static final int CLASSES = 4;
    private static final int ORDERS = 10;

    private final Object factory;
    private final StringBuilder text = new StringBuilder();

    private Aftermath(Object factory) {
        this.factory = factory;
    }

    static String of(Object factory) {
        Aftermath after = new Aftermath(factory);
        after.ask("stand", 0);
        after.ask("run", 3);
        after.enlarge();
        after.build();
        for (int round = 0; round < ROUNDS; round++) {
            after.ask("run", 7);
            after.shipAll();
            after.text.append(Sight.of(factory));
        }
        return after.text.toString();
    }

    private void ask(String call, int... arguments) {
        text.append(' ').append(Calls.ask(factory, call, arguments));
    }

    private void enlarge() {
        for (int kind = 0; kind < KINDS; kind++) {
            ask("setStore", kind, 99);
        }
        for (int work = 0; work < CLASSES; work++) {
            ask("setQueue", work, 60);
        }
    }

    private void build() {
        for (int kind = KINDS - 1; kind >= 0; kind--) {
            ask("make", kind, 2, 3);
            ask("buy", kind, 9);
            ask("addLine", kind, 0, 1, -1);
            ask("addOperation", kind, 0, 0, 1);
            ask("make", kind, 1, 4);
        }
        ask("addMachine", 15, 1, 1, 9, 1, -1);
        ask("addPerson", 1, 0, 24);
        ask("order", 0, 1, 0);
    }

    private void shipAll() {
        for (int order = 0; order < ORDERS; order++) {
            ask("promise", order);
            ask("ship", order);
        }
    }
}
