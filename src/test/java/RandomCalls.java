/** Draws runs of calls: first a factory that can work, then whatever may happen in it, wrong arguments too. */
final class RandomCalls {
    private static final int KINDS = 12;

    private final Dice dice;
    /** Of this many arguments one is drawn beyond its range; 0 for never. */
    private final int wrongOneIn;
    private int machines;
    private int people;
    private int orders;
    private String name = "";
    private int[] arguments = {};

    RandomCalls(Dice dice, int wrongOneIn) {
        this.dice = dice;
        this.wrongOneIn = wrongOneIn;
    }

    String name() {
        return name;
    }

    int[] arguments() {
        return arguments;
    }

    String text() {
        return Calls.text(name, arguments);
    }

    private void call(String called, int... with) {
        name = called;
        arguments = with;
    }

    private int from(int least, int most) {
        if (wrongOneIn > 0 && dice.oneIn(wrongOneIn)) {
            int[] wrong = {least - 1, most + 1, Integer.MIN_VALUE, Integer.MAX_VALUE, -1};
            return wrong[dice.roll(wrong.length)];
        }
        return most < least ? least : dice.between(least, most);
    }

    /** How many calls are for setting up. */
    int setUpCalls() {
        return 60;
    }

    void drawSetUp(int place) {
        if (place < 3) {
            call("setBought", from(place, place), from(1, 99), from(0, 6));
        } else if (place < 30) {
            int kind = 3 + (place - 3) / 5;
            drawPart(kind, (place - 3) % 5);
        } else if (place < 36) {
            machines++;
            call("addMachine", from(1, 15), from(0, 3), from(0, 9), dice.oneIn(3) ? from(1, 50) : from(1, 8), from(1, 4),
                dice.oneIn(2) ? -1 : from(0, 4));
        } else if (place < 42) {
            people++;
            call("addPerson", from(0, 9), from(0, 23), dice.oneIn(2) ? 24 : from(1, 24));
        } else if (place < 56) {
            call("setLevel", from(0, people - 1), from(0, 3), from(0, 3));
        } else {
            call("buy", from(0, 2), from(1, 20));
        }
    }

    private void drawPart(int kind, int place) {
        if (place < 2) {
            call("addLine", from(kind, kind), from(0, kind - 1), from(1, 3), dice.oneIn(2) ? -1 : from(0, kind - 1));
        } else if (place < 4 || dice.oneIn(2)) {
            call("addOperation", from(kind, kind), from(0, 3), from(0, 3), dice.oneIn(4) ? from(1, 9) : from(1, 3));
        } else {
            call("setStore", from(kind, kind), from(0, 99));
        }
    }

    void draw(int batches) {
        int place = dice.roll(100);
        if (place < 30) {
            call("run", dice.oneIn(10) ? from(1, 50) : from(1, 6));
        } else if (place < 40) {
            call("make", from(3, 8), from(1, dice.oneIn(3) ? 20 : 4), from(0, 9));
        } else if (place < 48) {
            call("buy", from(0, 3), from(1, 20));
        } else if (place < 52) {
            call("split", from(0, batches - 1), from(1, 3));
        } else if (place < 58) {
            call("join", from(0, batches - 1), from(0, batches - 1));
        } else if (place < 63) {
            call("rank", from(0, batches - 1), from(0, 9), dice.oneIn(4) ? 1 : 0);
        } else if (place < 65) {
            call("recall", from(0, batches - 1));
        } else if (place < 68) {
            call("late", from(0, batches - 1), from(1, 30));
        } else if (place < 71) {
            orders++;
            call("order", from(0, 8), from(1, dice.oneIn(2) ? 20 : 3), from(0, 200));
        } else if (place < 78) {
            call("promise", from(0, orders - 1));
        } else if (place < 82) {
            call("ship", from(0, orders - 1));
        } else {
            drawSetting(place, batches);
        }
    }

    private void drawSetting(int place, int batches) {
        if (place < 84) {
            call("stand", dice.oneIn(4) ? 1 : 0);
        } else if (place < 87) {
            call("setStore", from(0, 8), from(0, dice.oneIn(2) ? 99 : 20));
        } else if (place < 90) {
            call("setQueue", from(0, 3), from(0, dice.oneIn(2) ? 60 : 4));
        } else if (place < 92) {
            call("setLevel", from(0, people - 1), from(0, 3), from(0, 3));
        } else if (place < 93) {
            call("addPerson", from(0, 9), from(0, 23), from(1, 24));
        } else if (place < 94) {
            call("addMachine", from(1, 15), from(0, 5), from(0, 9), from(1, 50), from(1, 9), from(-1, 11));
        } else if (place < 95) {
            call("addLine", from(0, KINDS - 1), from(0, KINDS - 1), from(1, 3), from(-1, KINDS - 1));
        } else if (place < 96) {
            call("addOperation", from(0, KINDS - 1), from(0, 3), from(0, 3), from(1, 9));
        } else if (place < 97) {
            call("setBought", from(0, KINDS - 1), from(1, 99), from(0, 30));
        } else if (place < 98) {
            call("latest", from(0, KINDS - 1), from(0, 999));
        } else {
            drawView(batches);
        }
    }

    private void drawView(int batches) {
        String[] names = {"batch", "parent", "origin", "machine", "level", "store", "queued", "told", "why"};
        int[] rows = {batches, batches, batches, machines, people, KINDS, 4, orders, batches};
        int[] whats = {9, 5, 5, 5, 3, 1, 5, 5, machines - 1};
        int view = dice.roll(names.length);
        call(names[view], from(0, rows[view] - 1), from(0, whats[view]));
    }
}
