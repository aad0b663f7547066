/** Puts the same drawn runs of calls to Millrace and to PlainMillrace, and looks at all that both tell after each. */
final class AgreementTest {
    private static final int RUNS = 300;
    private static final int CALLS = 300;

    public static void main(String[] args) {
        int[] seen = new int[7];
        for (int run = 0; run < RUNS; run++) {
            agree(run, seen);
        }
        for (int state = 0; state < seen.length; state++) {
            Checks.isTrue("the runs come to batches of the state " + state, seen[state] > 100);
        }
        Checks.end("AgreementTest");
    }

    private static void agree(int run, int[] seen) {
        RandomCalls calls = new RandomCalls(new Dice(run), run % 3 == 0 ? 0 : 25);
        Millrace factory = new Millrace();
        PlainMillrace plain = new PlainMillrace();
        for (int i = 0; i < CALLS; i++) {
            if (i < calls.setUpCalls()) {
                calls.drawSetUp(i);
            } else {
                calls.draw(plain.batches());
            }
            String got = Calls.ask(factory, calls.name(), calls.arguments());
            String due = Calls.ask(plain, calls.name(), calls.arguments());
            String what = "run " + run + ", call " + i + ", " + calls.text();
            Checks.equal(what, got, due);
            if (!got.equals(due)) {
                return;
            }
            if (i % 4 == 0 || i == CALLS - 1) {
                String sight = Sight.of(factory);
                Checks.equal(what + ", what is seen then", sight, Sight.of(plain));
                if (!sight.equals(Sight.of(plain))) {
                    return;
                }
            }
        }
        for (int batch = 0; batch < factory.batches(); batch++) {
            seen[factory.batch(batch, 3)]++;
        }
    }
}
