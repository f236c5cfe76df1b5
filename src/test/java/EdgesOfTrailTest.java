import java.math.BigInteger;

/** The edges that the document names of trails and walks (promises 19 to 23), a test for each sentence. */
final class EdgesOfTrailTest {
    // 0 takes 1 and 2, gives 1, asks 2, pays 3; 1 takes 0, 2 and 3, gives 2, asks 1, pays 0
    // 2 takes 1, gives 3, asks 4, pays 0; 3 takes 0, 1 and 2, gives 0, asks 4, pays 3
    private static final String LAW = "12:123/023:210/1:340/012:043";
    private static final String BARE = "1:110/0:010/0:010/0:010";
    private static final int[] NOT_0_TO_4 = {-1, 5, Integer.MIN_VALUE, Integer.MAX_VALUE};
    private static final int[] FIGURES = {1, 5, 25, 125};
    private static final Checks CHECKS = new Checks("EdgesOfTrailTest");

    public static void main(String[] args) {
        noneHasBegun();
        howManyPursesThatHad();
        trailOfNobody();
        fivePursesAtMost();
        purseZeroTo624();
        figuresOfFive();
        oneWayOfNoPurses();
        oneForEachAct();
        eachMayBe();
        neverThesePurses();
        inAllWays();
        fromWhatItIsNow();
        byPricesAsTheyAreNow();
        allTownsAsBits();
        timesOneToSixty();
        seedZeroAtLeast();
        whatOfAWalk();
        itsRestByTwoToThe31();
        byNumberOfThoseThatMayBe();
        asItWouldBe();
        CHECKS.end();
    }

    private static void due(String what, long want, long got) {
        CHECKS.due(what, want, got);
    }

    private static OtherCoins withOne(String law, int kind, int town, int coins0, int coins1, int coins2, int coins3) {
        OtherCoins x = Checks.under(law);
        Checks.someone(x, kind, town, coins0, coins1, coins2, coins3);
        return x;
    }

    private static void dueNoTrail(String when, OtherCoins x) {
        due("20: " + when, -103, x.next(0));
        due("20: " + when + ", STATE ahead of OUTSIDE", -103, x.next(-1));
        due("20: " + when + ", STATE ahead of OUTSIDE", -103, x.next(625));
        due("21: " + when, -103, x.ways());
        due("22: " + when, -103, x.ends());
        due("26: " + when, 0, x.count(4));
    }

    /** "STATE: no TRAIL has begun." */
    private static void noneHasBegun() {
        OtherCoins x = new OtherCoins();
        dueNoTrail("without a law", x);
        Checks.write(x, LAW);
        x.law();
        dueNoTrail("with nobody", x);
        due("19: of nobody", -101, x.trail(0));
        dueNoTrail("a refused one has not begun", x);
        x.person(0, 0);
        dueNoTrail("with somebody", x);
        x.image();
        due("19: the first", 0, x.trail(0));
        due("20: it has begun", 1, x.next(0));
        x.restore();
        dueNoTrail("behind restore()", x);
        due("19: behind restore() none had purses", 0, x.trail(0));
        x.next(0);
        Checks.write(x, LAW);
        x.law();
        dueNoTrail("behind law()", x);
        x.person(0, 0);
        due("19: behind law() none had purses", 0, x.trail(0));
    }

    /** "(another one is gone): how many PURSES that had" */
    private static void howManyPursesThatHad() {
        for (int n = 0; n <= 5; n++) {
            OtherCoins x = withOne(LAW, 0, 1, 0, 0, 0, 0);
            x.person(0, 2);
            due("19: none was there", 0, x.trail(0));
            for (int i = 0; i < n; i++) {
                x.next(0);
            }
            due("19: that had " + n, n, x.trail(1));
            due("26: none of its own", 0, x.count(4));
            due("21: none of its own", 1, x.ways());
            due("22: it is in 2", 4, x.ends());
            due("19: this one had none", 0, x.trail(1));
        }
    }

    /** "UNKNOWN" - and the one that is there goes on. */
    private static void trailOfNobody() {
        OtherCoins x = withOne(LAW, 0, 1, 0, 0, 0, 0);
        x.trail(0);
        x.next(0);
        for (int person : NOT_0_TO_4) {
            due("19: person " + person, -101, x.trail(person));
        }
        due("19: the next number", -101, x.trail(1));
        due("21: the other goes on", 2, x.ways());
        due("20: the other goes on", 2, x.next(0));
    }

    /** "one for each ACT (5 at most)"; "FULL" behind the other refusals */
    private static void fivePursesAtMost() {
        OtherCoins x = withOne(LAW, 0, 0, 0, 0, 0, 0);
        x.trail(0);
        for (int i = 1; i <= 5; i++) {
            due("20: how many", i, x.next(0));
            due("26: how many", i, x.count(4));
        }
        due("20: a sixth", -104, x.next(0));
        due("20: a sixth, the highest", -104, x.next(624));
        due("20: OUTSIDE ahead of FULL", -102, x.next(625));
        due("20: OUTSIDE ahead of FULL", -102, x.next(-1));
        due("26: five", 5, x.count(4));
        due("21: of five", 32, x.ways());
        due("19: that had five", 5, x.trail(0));
        due("20: another one takes some", 1, x.next(0));
    }

    /** "OUTSIDE: purse (0 to 624)" */
    private static void purseZeroTo624() {
        OtherCoins poor = withOne(LAW, 0, 0, 0, 0, 0, 0);
        poor.trail(0);
        OtherCoins rich = withOne(LAW, 0, 0, 4, 4, 4, 4);
        rich.trail(0);
        for (int purse : new int[] {-1, 625, 626, 3125, Integer.MIN_VALUE, Integer.MAX_VALUE}) {
            due("20: purse " + purse, -102, poor.next(purse));
            due("20: purse " + purse, -102, rich.next(purse));
        }
        due("26: none of these came", 0, poor.count(4));
        due("20: 0", 1, poor.next(0));
        due("21: 0 is nothing", 2, poor.ways());
        due("20: 624", 1, rich.next(624));
        due("21: 624 is 4 of each", 2, rich.ways());
    }

    /** "figures of five, the lowest for COIN 0" */
    private static void figuresOfFive() {
        for (int coin = 0; coin < 4; coin++) {
            for (int had = 1; had <= 4; had++) {
                OtherCoins x = withOne(LAW, 2, 1, 0, 0, 0, 0);
                x.purse(0, coin, had);
                for (int other = 0; other < 4; other++) {
                    x.trail(0);
                    x.next((had - 1) * FIGURES[other]);
                    boolean same = other == coin || had == 1;
                    due("21: " + had + " of " + coin + ", one is paid, as " + other, same ? 1 : 0, x.ways());
                }
                x.trail(0);
                x.next(had * FIGURES[coin]);
                due("21: " + had + " of " + coin + " stay", 2, x.ways());
            }
        }
        OtherCoins x = withOne(LAW, 2, 1, 4, 3, 2, 1);
        int purse = 4 + 3 * 5 + 2 * 25 + 125;
        for (int coin = 0; coin < 4; coin++) {
            x.trail(0);
            x.next(purse - FIGURES[coin]);
            due("21: paid with " + coin, 1, x.ways());
            due("22: paid with " + coin, 2, x.ends());
        }
    }

    /** "(1, if there are no PURSES)" - and then it is where it is. */
    private static void oneWayOfNoPurses() {
        for (int town = 0; town < 4; town++) {
            OtherCoins x = withOne(LAW, town, town, 1, 2, 3, 4);
            x.trail(0);
            due("21: of no purses", 1, x.ways());
            due("22: in " + town, 1 << town, x.ends());
            x.act(0, (town + 1) % 4);
            due("21: still", 1, x.ways());
            due("22: still in " + town, 1 << town, x.ends());
        }
    }

    /** "one for each ACT": two acts are not one. */
    private static void oneForEachAct() {
        OtherCoins x = withOne(LAW, 0, 1, 2, 0, 0, 0);
        x.trail(0);
        x.next(0);
        due("21: good 0 is not bought by one act from 1", 0, x.ways());
        x.trail(0);
        x.next(2);
        x.next(0);
        due("21: nor for 2 of coin 0", 0, x.ways());
        x.trail(0);
        x.next(1);
        due("21: one is paid for good 1", 1, x.ways());
        x.next(1);
        due("21: then it goes, or stays with another", 2, x.ways());
        due("22: to 0 or 2", 1 | 4, x.ends());
    }

    /** "each MAY be" */
    private static void eachMayBe() {
        OtherCoins x = withOne(LAW, 0, 1, 2, 0, 0, 0);
        x.trail(0);
        x.next(1);
        x.next(0);
        due("21: a good is not bought twice", 0, x.ways());
        OtherCoins thief = withOne(LAW, 2, 1, 0, 2, 0, 0);
        Checks.someone(thief, 0, 1, 0, 2, 0, 0);
        thief.trail(0);
        thief.next(5);
        due("21: a thief pays with coin 1 in 1", 1, thief.ways());
        thief.trail(1);
        thief.next(5);
        due("21: a person does not", 0, thief.ways());
        OtherCoins full = withOne(LAW, 0, 1, 1, 2, 0, 0);
        full.act(0, 10);
        full.act(0, 0);
        full.trail(0);
        full.next(4 * 5);
        due("21: 3 more than 2 of coin 1 are above 4", 0, full.ways());
        full.purse(0, 1, 1);
        full.trail(0);
        full.next(4 * 5);
        due("21: 3 more than 1 are not", 1, full.ways());
    }

    /** No row at all: no ways, and it can be nowhere, whatever comes then. */
    private static void neverThesePurses() {
        OtherCoins x = withOne(LAW, 0, 0, 0, 0, 0, 0);
        x.trail(0);
        x.next(624);
        due("21: never", 0, x.ways());
        due("22: nowhere", 0, x.ends());
        for (int i = 0; i < 4; i++) {
            x.next(i % 2 == 0 ? 624 : 0);
            due("21: never again", 0, x.ways());
            due("22: nowhere again", 0, x.ends());
        }
    }

    /** "in how many rows of ACTS ... its PURSE would be just these": all ways of going and of selling for nothing. */
    private static void inAllWays() {
        OtherCoins x = withOne(BARE, 2, 0, 4, 0, 0, 0);
        for (int town = 0; town < 4; town++) {
            x.act(0, town);
            x.act(0, 10);
        }
        due("9: all goods", 15, x.about(0, 2));
        x.trail(0);
        x.next(0);
        due("21: goes to 0 or 2, or sells one of three", 2 + 3, x.ways());
        due("22: 0, 2 or still 3", 1 | 4 | 8, x.ends());
        x.next(0);
        // gone: two towns with three to sell each, and two ways on; sold: two are left, and two ways on
        due("21: twice", 2 * (2 + 3) + 3 * (2 + 2), x.ways());
        due("22: everywhere", 15, x.ends());
    }

    /** "of a PERSON, from what it is now": its KIND, TOWN, PURSE and GOODS as the trail began. */
    private static void fromWhatItIsNow() {
        OtherCoins x = withOne(LAW, 0, 1, 2, 0, 0, 0);
        x.trail(0);
        x.next(1);
        x.act(0, 10);
        x.act(0, 2);
        x.purse(0, 0, 0);
        x.purse(0, 3, 4);
        x.person(2, 3);
        due("21: as it was", 1, x.ways());
        due("22: as it was", 2, x.ends());
        due("19: again, as it is", 1, x.trail(0));
        x.next(4 * 125);
        due("21: it goes, or sells good 1 for nothing", 3, x.ways());
        due("22: from 2", 2 | 4 | 8, x.ends());
    }

    /** "(by PRICES as they are now)" */
    private static void byPricesAsTheyAreNow() {
        OtherCoins x = withOne(LAW, 0, 1, 4, 0, 0, 0);
        x.trail(0);
        x.next(0);
        for (int price = 1; price <= 4; price++) {
            x.price(1, price);
            due("21: all four are paid by " + price, price == 4 ? 1 : 0, x.ways());
            due("22: all four are paid by " + price, price == 4 ? 2 : 0, x.ends());
        }
        OtherCoins beggar = withOne(LAW, 1, 1, 4, 0, 0, 0);
        beggar.trail(0);
        beggar.next(3);
        int[] ways = {0, 1, 1, 0, 0};
        for (int price = 1; price <= 4; price++) {
            beggar.price(1, price);
            due("21: a beggar pays one of " + price, ways[price], beggar.ways());
        }
    }

    /** "all TOWNS in which it could be then, as bits" */
    private static void allTownsAsBits() {
        for (int town = 0; town < 4; town++) {
            OtherCoins x = withOne(LAW, 0, town, 0, 0, 0, 0);
            x.trail(0);
            for (int i = 1; i <= 5; i++) {
                x.next(0);
                due("22: from " + town + " by " + i, (town + i) % 2 == 0 ? 1 | 4 : 2 | 8, x.ends());
                due("21: from " + town + " by " + i, 1 << i, x.ways());
            }
        }
    }

    /** "OUTSIDE: times (1 to 60)" */
    private static void timesOneToSixty() {
        OtherCoins x = withOne(LAW, 0, 0, 0, 0, 0, 0);
        for (int times : new int[] {0, 61, -1, Integer.MIN_VALUE, Integer.MAX_VALUE}) {
            for (int what = 0; what < 4; what++) {
                due("23: times " + times, -102, x.walk(0, times, 7, what));
            }
        }
        for (int times : new int[] {1, 2, 59, 60}) {
            due("23: times " + times, seedBehind(7, times), x.walk(0, times, 7, 3));
            due("23: no coins by " + times, 0, x.walk(0, times, 7, 1));
            due("23: no goods by " + times, 0, x.walk(0, times, 7, 2));
            due("23: as far off as " + times, times % 2, x.walk(0, times, 7, 0) % 2);
        }
    }

    /** "seed (0 at least)" */
    private static void seedZeroAtLeast() {
        OtherCoins x = withOne(LAW, 0, 0, 0, 0, 0, 0);
        for (int seed : new int[] {-1, -2, Integer.MIN_VALUE, Integer.MIN_VALUE + 1}) {
            due("23: seed " + seed, -102, x.walk(0, 1, seed, 3));
            due("23: seed " + seed, -102, x.walk(0, 60, seed, 0));
        }
        due("23: seed 0", 12345, x.walk(0, 1, 0, 3));
        due("23: seed 0, 12345 by 65536 is 0, the first act", 1, x.walk(0, 1, 0, 0));
        due("23: seed 1", 1103515245 + 12345, x.walk(0, 1, 1, 3));
    }

    /** "what = 0 its TOWN then, 1 COINS together, 2 GOODS, as bits, 3 the SEED then"; "UNKNOWN; OUTSIDE" */
    private static void whatOfAWalk() {
        OtherCoins x = withOne(LAW, 0, 0, 0, 0, 0, 0);
        for (int what : new int[] {-1, 4, Integer.MIN_VALUE, Integer.MAX_VALUE}) {
            due("23: what " + what, -102, x.walk(0, 1, 0, what));
        }
        for (int person : new int[] {-1, 1, 5, Integer.MIN_VALUE, Integer.MAX_VALUE}) {
            due("23: person " + person, -101, x.walk(person, 1, 0, 0));
            due("23: person " + person + ", UNKNOWN first", -101, x.walk(person, 0, 0, 0));
            due("23: person " + person + ", UNKNOWN first", -101, x.walk(person, 1, -1, 0));
            due("23: person " + person + ", UNKNOWN first", -101, x.walk(person, 1, 0, 4));
        }
    }

    private static long seedBehind(long seed, int times) {
        BigInteger last = BigInteger.valueOf(seed);
        for (int i = 0; i < times; i++) {
            last = last.multiply(BigInteger.valueOf(1103515245)).add(BigInteger.valueOf(12345)).mod(BigInteger.TWO.pow(31));
        }
        return last.longValueExact();
    }

    /** "1103515245 times it and 12345, its rest by 2 to the 31" */
    private static void itsRestByTwoToThe31() {
        OtherCoins x = withOne(LAW, 4, 2, 4, 4, 4, 4);
        int[] seeds = {0, 1, 2, 3, 65535, 65536, 1 << 30, Integer.MAX_VALUE - 1, Integer.MAX_VALUE};
        for (int seed : seeds) {
            for (int times : new int[] {1, 2, 3, 59, 60}) {
                due("23: seed " + seed + " by " + times, seedBehind(seed, times), x.walk(0, times, seed, 3));
            }
        }
        // the seed that comes to 0, and the one that comes to the highest there is
        long inverse = BigInteger.valueOf(1103515245).modInverse(BigInteger.TWO.pow(31)).longValueExact();
        int toNone = (int) Math.floorMod(-12345L * inverse, 1L << 31);
        int toMost = (int) Math.floorMod(-12346L * inverse, 1L << 31);
        due("23: the seed then is 0", 0, x.walk(0, 1, toNone, 3));
        due("23: the seed then is the highest", Integer.MAX_VALUE, x.walk(0, 1, toMost, 3));
    }

    /** "an ACT, of those that MAY be, by number, by a DRAW of how many there are" */
    private static void byNumberOfThoseThatMayBe() {
        // a thief in 1 with good 0: goes to 0 or 2, buys with any of three, sells good 0 for nothing
        OtherCoins x = withOne(LAW, 2, 0, 4, 3, 2, 1);
        x.act(0, 10);
        x.act(0, 1);
        x.purse(0, 2, 0);
        int[] acts = {0, 2, 10, 11, 13, 20};
        int[] towns = {0, 2, 1, 1, 1, 1};
        int[] coins = {6, 6, 5, 5, 5, 6};
        int[] goods = {1, 1, 3, 3, 3, 0};
        for (int act : acts) {
            due("12: may " + act, 1, x.may(0, act));
        }
        for (int seed = 0; seed < 60; seed++) {
            int draw = (int) (seedBehind(seed, 1) / 65536 % acts.length);
            due("23: town of seed " + seed, towns[draw], x.walk(0, 1, seed, 0));
            due("23: coins of seed " + seed, coins[draw], x.walk(0, 1, seed, 1));
            due("23: goods of seed " + seed, goods[draw], x.walk(0, 1, seed, 2));
        }
    }

    /** "as it would be": nothing is done. */
    private static void asItWouldBe() {
        OtherCoins x = withOne(LAW, 3, 0, 4, 4, 4, 4);
        x.trail(0);
        x.next(624);
        long digest = x.digest();
        int town = x.walk(0, 60, 77, 0);
        due("23: the same again", town, x.walk(0, 60, 77, 0));
        x.walk(0, 60, 77, 1);
        x.walk(0, 60, 77, 2);
        x.walk(0, 60, 77, 3);
        due("23: nothing is done", digest, x.digest());
        due("23: no act", 0, x.count(3));
        due("23: no search", 0, x.count(7));
    }
}
