/** What must hold in every factory at any time: all costs add up, and no more is promised than is there. */
final class SumsTest {
    private static final int RUNS = 150;
    private static final int CALLS = 512;

    public static void main(String[] args) {
        int[] most = new int[6];
        for (int run = 0; run < RUNS; run++) {
            RandomCalls calls = new RandomCalls(new Dice(1000 + run), run % 2 == 0 ? 0 : 40);
            Millrace factory = new Millrace();
            for (int i = 0; i < CALLS; i++) {
                if (i < calls.setUpCalls()) {
                    calls.drawSetUp(i);
                } else {
                    calls.draw(factory.batches());
                }
                callAndLook("run " + run + ", call " + i + ", " + calls.text(), calls, factory);
            }
            for (int what = 0; what < most.length; what++) {
                most[what] = Math.max(most[what], factory.ledger(what));
            }
        }
        for (int what = 0; what < most.length; what++) {
            Checks.isTrue("the runs come to the entry " + what + " of the ledger", most[what] > 100);
        }
        Checks.end("SumsTest");
    }

    private static void callAndLook(String what, RandomCalls calls, Millrace factory) {
        String before = Sight.of(factory);
        String answer = Calls.ask(factory, calls.name(), calls.arguments());
        if (answer.endsWith("Exception")) {
            Checks.isTrue(what + " threw " + answer, answer.equals("IndexOutOfBoundsException")
                || answer.equals("IllegalArgumentException") || answer.equals("IllegalStateException"));
            Checks.equal(what + " threw, what it changed", Sight.of(factory), before);
        }
        Checks.equal(what + ", the ledger", factory.ledger(0) + factory.ledger(1),
            factory.ledger(2) + factory.ledger(3) + factory.ledger(4) + factory.ledger(5));
        for (int kind = 0; kind < 12; kind++) {
            Checks.isTrue(what + ", promised of " + kind, factory.store(kind, 1) <= factory.store(kind, 0));
            Checks.equal(what + ", pieces in store of " + kind, factory.store(kind, 0), piecesInStore(factory, kind));
        }
        for (int batch = 0; batch < factory.batches(); batch++) {
            Checks.isTrue(what + ", gone when no piece is left: " + batch,
                (factory.batch(batch, 1) == 0) == (factory.batch(batch, 3) == 4));
            Checks.isTrue(what + ", no cost below 0: " + batch, factory.batch(batch, 2) >= 0);
        }
    }

    private static int piecesInStore(Millrace factory, int kind) {
        int pieces = 0;
        for (int batch = 0; batch < factory.batches(); batch++) {
            if (factory.batch(batch, 0) == kind && factory.batch(batch, 3) == 3) {
                pieces += factory.batch(batch, 1);
            }
        }
        return pieces;
    }
}
