/** Small factories for the tests, so that a test shows only what it is about. */
final class Shop {
    private Shop() {
    }

    /** A person with that level in every skill, on shift all day, without a wage. */
    static int addPerson(Millrace factory, int level) {
        int person = factory.addPerson(0, 0, 24);
        for (int skill = 0; skill < 4; skill++) {
            factory.setLevel(person, skill, level);
        }
        return person;
    }

    /** A machine of these classes that never wears out, costs nothing and needs no setting up. */
    static int addMachine(Millrace factory, int classes) {
        return factory.addMachine(classes, 0, 0, 50, 1, -1);
    }

    /** Kind 0, bought for 10 apiece, there at once. */
    static Millrace withBought() {
        Millrace factory = new Millrace();
        factory.setBought(0, 10, 0);
        return factory;
    }

    /** Kind 0 as above, and kind 1, which takes no parts, made by one operation of class 0, skill 0. */
    static Millrace withMade(int hours) {
        Millrace factory = withBought();
        factory.addOperation(1, 0, 0, hours);
        return factory;
    }

    /** The same with a machine for all classes and a person of level 1. */
    static Millrace working(int hours) {
        Millrace factory = withMade(hours);
        addMachine(factory, 15);
        addPerson(factory, 1);
        return factory;
    }

    /**
     * Batch 0 of 3 pieces and the priority 6, sent back to its only operation, which the machine, worn by 4 times
     * its limit, can only do with a fault; and which waits, as a piece for the repair is lacking.
     */
    static Millrace sentBack() {
        Millrace factory = withMade(4);
        factory.addMachine(1, 0, 1, 1, 1, 11);
        addPerson(factory, 1);
        factory.make(1, 3, 6);
        factory.run(5);
        return factory;
    }

    /** A bought batch that is in store an hour later. */
    static int stocked(Millrace factory, int kind, int pieces) {
        int batch = factory.buy(kind, pieces);
        factory.run(1);
        return batch;
    }

    /** The batches 0 to 6 of 4 pieces each, of which each is what its number says: coming, waiting, and so on. */
    static Millrace everyState() {
        Millrace factory = new Millrace();
        factory.setBought(0, 3, 0);
        factory.setBought(1, 7, 0);
        factory.setBought(2, 5, 30);
        factory.addOperation(3, 0, 0, 9);
        factory.addOperation(4, 1, 1, 9);
        addMachine(factory, 3);
        factory.addPerson(1, 0, 24);
        factory.setLevel(0, 1, 1);
        factory.buy(2, 4);
        factory.make(3, 4, 4);
        factory.make(4, 4, 5);
        factory.buy(0, 4);
        factory.buy(1, 4);
        factory.make(3, 4, 6);
        factory.recall(5);
        factory.run(1);
        factory.order(1, 4, 0);
        factory.promise(0);
        factory.ship(0);
        return factory;
    }

    static void pass(Millrace factory, int hours) {
        for (int left = hours; left > 0; left -= 50) {
            factory.run(Math.min(left, 50));
        }
    }

    /** Makes batches until so many were made: late ones that never come in a test. */
    static void fill(Millrace factory, int batches) {
        factory.setBought(11, 1, 30);
        while (factory.batches() < batches) {
            int batch = factory.buy(11, 1);
            for (int i = 0; i < 3; i++) {
                factory.late(batch, 30);
            }
        }
    }
}
