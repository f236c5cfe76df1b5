/** Promises 19 to 23: where a purse has been. */
final class TrailTest {
    private static final String LAW = "12:123/023:210/1:340/012:043";
    private static final int[] NO_NUMBERS = {-1, 5, Integer.MIN_VALUE, Integer.MAX_VALUE};
    private static final Checks CHECKS = new Checks("TrailTest");

    public static void main(String[] args) {
        trail();
        next();
        waysOfGoing();
        waysOfTrade();
        fromWhatItWas();
        fromWhatItHadThen();
        walkOfOne();
        walk();
        walkRefused();
        CHECKS.end();
    }

    private static void due(String what, long want, long got) {
        CHECKS.due(what, want, got);
    }

    private static void trail() {
        OtherCoins x = Checks.under(LAW);
        x.person(0, 0);
        x.person(0, 3);
        due("21: none has begun", -103, x.ways());
        due("22: none has begun", -103, x.ends());
        due("20: none has begun", -103, x.next(0));
        due("20: STATE first", -103, x.next(625));
        due("19: the first", 0, x.trail(0));
        due("21: no purses", 1, x.ways());
        due("22: no purses", 1, x.ends());
        x.next(0);
        x.next(0);
        x.next(0);
        due("19: another one's", 3, x.trail(1));
        due("19: no purses then", 0, x.count(4));
        due("22: of another", 8, x.ends());
        due("19: none of it", 0, x.trail(1));
        x.next(0);
        for (int person : NO_NUMBERS) {
            due("19: nobody", -101, x.trail(person));
        }
        due("19: not yet there", -101, x.trail(2));
        due("19: it stays", 1, x.count(4));
        OtherCoins none = new OtherCoins();
        due("19: no law", -101, none.trail(0));
    }

    private static void next() {
        OtherCoins x = Checks.under(LAW);
        x.person(0, 0);
        x.trail(0);
        due("20: 624", 1, x.next(624));
        due("20: 0", 2, x.next(0));
        for (int purse : new int[] {-1, 625, 630, Integer.MIN_VALUE, Integer.MAX_VALUE}) {
            due("20: outside", -102, x.next(purse));
        }
        due("20: 1", 3, x.next(1));
        due("20: 5", 4, x.next(5));
        due("20: 125", 5, x.next(125));
        due("20: full", -104, x.next(0));
        due("20: OUTSIDE ahead of FULL", -102, x.next(625));
        due("20: five", 5, x.count(4));
        due("21: never", 0, x.ways());
        due("22: never", 0, x.ends());
    }

    private static void waysOfGoing() {
        OtherCoins x = Checks.under(LAW);
        Checks.someone(x, 0, 1, 4, 3, 2, 1);
        int purse = 4 + 3 * 5 + 2 * 25 + 125;
        x.trail(0);
        for (int i = 1; i <= 5; i++) {
            x.next(purse);
            due("21: two ways each", 1 << i, x.ways());
            due("22: by turns", i % 2 == 1 ? 1 | 4 : 2 | 8, x.ends());
        }
    }

    private static void waysOfTrade() {
        OtherCoins x = Checks.under(LAW);
        Checks.someone(x, 0, 0, 0, 2, 2, 0);
        x.trail(0);
        x.next(2 * 25);
        due("21: bought with 1", 1, x.ways());
        due("22: there", 1, x.ends());
        x.next(2 * 25);
        due("21: gone", 2, x.ways());
        due("22: to 1 or 3", 2 | 8, x.ends());
        x.next(2 * 25 + 3);
        due("21: sold in 3", 1, x.ways());
        due("22: in 3", 8, x.ends());
        x.next(2 * 25 + 3);
        due("21: gone again", 2, x.ways());
        due("22: to 0 or 2", 1 | 4, x.ends());
        x.next(3);
        due("21: bought with 2", 1, x.ways());
        due("22: in 0", 1, x.ends());
        // for pay 0: buying and selling in town 1 as well as going keeps a purse
        OtherCoins free = Checks.under("1:110/0:010/0:010/0:010");
        Checks.someone(free, 0, 0, 0, 1, 0, 0);
        free.trail(0);
        free.next(0);
        free.next(0);
        due("21: gone", 2, free.ways());
        free.next(0);
        due("21: sold, or gone", 2 + 4, free.ways());
        due("22: everywhere", 1 | 2 | 4 | 8, free.ends());
    }

    private static void fromWhatItWas() {
        OtherCoins x = Checks.under(LAW);
        Checks.someone(x, 0, 0, 0, 3, 0, 0);
        x.trail(0);
        x.next(5);
        due("21: for 2", 1, x.ways());
        x.price(0, 1);
        due("21: by prices of now", 0, x.ways());
        due("22: by prices of now", 0, x.ends());
        x.price(0, 2);
        x.act(0, 11);
        x.act(0, 1);
        x.purse(0, 3, 4);
        due("21: from what it was", 1, x.ways());
        due("22: from where it was", 1, x.ends());
        OtherCoins thief = Checks.under(LAW);
        Checks.someone(thief, 2, 0, 2, 0, 0, 0);
        thief.trail(0);
        thief.next(0);
        due("21: a thief's own way", 1, thief.ways());
        thief.person(0, 0);
        Checks.someone(thief, 0, 0, 2, 0, 0, 0);
        thief.trail(2);
        thief.next(0);
        due("21: not a person's", 0, thief.ways());
    }

    private static void fromWhatItHadThen() {
        OtherCoins x = Checks.under(LAW);
        Checks.someone(x, 0, 0, 0, 4, 0, 0);
        x.act(0, 11);
        x.trail(0);
        x.next(0);
        due("21: it is not bought twice", 0, x.ways());
        x.trail(0);
        x.next(2 * 5);
        x.next(2 * 5 + 3);
        due("21: what it had is sold", 1, x.ways());
        due("22: in 3", 8, x.ends());
    }

    private static long seedBehind(long seed) {
        return (1103515245L * seed + 12345L) % (1L << 31);
    }

    private static void walkOfOne() {
        OtherCoins x = Checks.under(LAW);
        x.person(0, 0);
        for (int seed = 0; seed < 40; seed++) {
            long draw = seedBehind(seed) / 65536 % 2;
            due("23: to 1 or 3", draw == 0 ? 1 : 3, x.walk(0, 1, seed, 0));
            due("23: the seed then", seedBehind(seed), x.walk(0, 1, seed, 3));
        }
        Checks.someone(x, 0, 0, 0, 4, 3, 0);
        for (int seed = 0; seed < 40; seed++) {
            int draw = (int) (seedBehind(seed) / 65536 % 4);
            due("23: of four, the town", new int[] {1, 3, 0, 0}[draw], x.walk(1, 1, seed, 0));
            due("23: of four, coins", new int[] {7, 7, 5, 5}[draw], x.walk(1, 1, seed, 1));
            due("23: of four, goods", new int[] {0, 0, 1, 1}[draw], x.walk(1, 1, seed, 2));
        }
        due("23: the highest seed", seedBehind(Integer.MAX_VALUE), x.walk(0, 1, Integer.MAX_VALUE, 3));
    }

    private static void walk() {
        OtherCoins x = Checks.under(LAW);
        Checks.someone(x, 3, 0, 4, 4, 4, 4);
        int seed = 5;
        int town = x.walk(0, 60, seed, 0);
        int coins = x.walk(0, 60, seed, 1);
        int goods = x.walk(0, 60, seed, 2);
        int last = x.walk(0, 60, seed, 3);
        due("23: nothing is done", 0, x.count(3));
        due("23: it is where it was", 0, x.about(0, 1));
        due("23: its coins stay", 16, x.about(0, 3));
        long drawn = seed;
        for (int i = 0; i < 60; i++) {
            drawn = seedBehind(drawn);
            doDrawn(x, (int) (drawn / 65536));
        }
        due("23: as it is done, town", x.about(0, 1), town);
        due("23: as it is done, coins", x.about(0, 3), coins);
        due("23: as it is done, goods", x.about(0, 2), goods);
        due("23: as it is done, seed", drawn, last);
    }

    private static void doDrawn(OtherCoins x, int draw) {
        int open = 0;
        for (int act = 0; act < 24; act++) {
            open += x.may(0, act) == 1 ? 1 : 0;
        }
        int left = draw % open;
        for (int act = 0; act < 24; act++) {
            if (x.may(0, act) == 1) {
                if (left == 0) {
                    x.act(0, act);
                    return;
                }
                left--;
            }
        }
    }

    private static void walkRefused() {
        OtherCoins x = Checks.under(LAW);
        x.person(0, 0);
        for (int person : NO_NUMBERS) {
            due("23: nobody", -101, x.walk(person, 1, 1, 0));
            due("23: UNKNOWN first", -101, x.walk(person, 0, -1, 4));
        }
        for (int times : new int[] {0, 61, -1, Integer.MIN_VALUE, Integer.MAX_VALUE}) {
            due("23: times", -102, x.walk(0, times, 1, 0));
        }
        due("23: seed -1", -102, x.walk(0, 1, -1, 0));
        due("23: lowest seed", -102, x.walk(0, 1, Integer.MIN_VALUE, 0));
        due("23: seed 0", 12345, x.walk(0, 1, 0, 3));
        for (int what : new int[] {-1, 4, Integer.MIN_VALUE, Integer.MAX_VALUE}) {
            due("23: what", -102, x.walk(0, 1, 1, what));
        }
    }
}
