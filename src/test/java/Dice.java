/** Numbers that look random and are the same each time. */
final class Dice {
    private long seed;

    Dice(long seed) {
        this.seed = seed * 2862933555777941757L + 3037000493L;
    }

    /** A number from 0 to sides - 1. */
    int roll(int sides) {
        seed = seed * 6364136223846793005L + 1442695040888963407L;
        return (int) Math.floorMod(seed >>> 33, (long) sides);
    }

    int between(int least, int most) {
        return least + roll(most - least + 1);
    }

    boolean oneIn(int many) {
        return roll(many) == 0;
    }
}
