import java.util.Random;

/** The edges that the document names of what would be (promises 15 to 18), a test for each sentence. */
final class EdgesOfSearchTest {
    private static final String LAW = "12:123/023:210/1:340/012:043";
    // only coins 0 and 1 are taken anywhere, nothing is paid for a good, each costs 1
    private static final String BARE = "1:110/0:010/0:010/0:010";
    private static final int[] NOT_0_TO_3 = {-1, 4, Integer.MIN_VALUE, Integer.MAX_VALUE};
    private static final int[] NOT_0_TO_4 = {-1, 5, Integer.MIN_VALUE, Integer.MAX_VALUE};
    private static final int[] NO_PRICES = {0, 5, -1, Integer.MIN_VALUE, Integer.MAX_VALUE};
    private static final Checks CHECKS = new Checks("EdgesOfSearchTest");

    public static void main(String[] args) {
        noneIfItHasIt();
        byNone();
        oneActIsTheLeast();
        theLeastThatBegins();
        justEnoughForTheGood();
        longRows();
        amongAllThatItCanBe();
        fewestRefused();
        richestRefused();
        fortyTimesTogether();
        whatCountsAmongTheForty();
        fortyEver();
        refusalsAheadOfState();
        noActsAtAll();
        eightActsAndNotNine();
        amongAllRows();
        orFewer();
        theMostThatCanBe();
        deadAreCountedEach();
        deadInNoTown();
        deadOfNobodyElse();
        wouldBeLess();
        wouldBeWhereThereIsNone();
        theSamePriceOrMore();
        gainsOfNobodyAndOfAll();
        gainsAsFewestTells();
        gainsRefused();
        CHECKS.end();
    }

    private static void due(String what, long want, long got) {
        CHECKS.due(what, want, got);
    }

    private static OtherCoins withOne(String law, int kind, int town, int coins0, int coins1, int coins2, int coins3) {
        OtherCoins x = Checks.under(law);
        Checks.someone(x, kind, town, coins0, coins1, coins2, coins3);
        return x;
    }

    /** "0: it has"; "1 the first (NONE: it has it)" */
    private static void noneIfItHasIt() {
        for (int good = 0; good < 4; good++) {
            OtherCoins x = withOne(LAW, 2, good, 4, 4, 4, 4);
            due("15: not yet, " + good, 1, x.fewest(0, good, 0));
            x.act(0, 10);
            due("15: has " + good, 0, x.fewest(0, good, 0));
            due("15: has " + good + ", the first", -1, x.fewest(0, good, 1));
            x.act(0, (good + 1) % 4);
            due("15: has " + good + " elsewhere", 0, x.fewest(0, good, 0));
            due("15: has " + good + " elsewhere, the first", -1, x.fewest(0, good, 1));
            due("15: not the next one", 1, x.fewest(0, (good + 1) % 4, 0));
        }
    }

    /** "NONE: by none" */
    private static void byNone() {
        for (int kind = 0; kind < 5; kind++) {
            OtherCoins x = withOne(LAW, kind, 0, 0, 0, 0, 0);
            for (int good = 0; good < 4; good++) {
                due("15: without a coin", -1, x.fewest(0, good, 0));
                due("15: without a coin, the first", -1, x.fewest(0, good, 1));
            }
        }
        OtherCoins x = withOne(BARE, 0, 0, 0, 0, 4, 4);
        for (int good = 0; good < 4; good++) {
            due("15: with coins that no town takes", -1, x.fewest(0, good, 0));
        }
    }

    /** "the least number of ACTS of its own by which it has the GOOD" */
    private static void oneActIsTheLeast() {
        OtherCoins x = withOne(BARE, 0, 0, 1, 1, 0, 0);
        due("15: here", 1, x.fewest(0, 0, 0));
        due("15: next door", 2, x.fewest(0, 1, 0));
        due("15: two towns off", 3, x.fewest(0, 2, 0));
        due("15: next door by the end of the ring", 2, x.fewest(0, 3, 0));
        due("15: here, the first is to buy", 11, x.fewest(0, 0, 1));
        due("15: next door, the first is to go", 1, x.fewest(0, 1, 1));
        due("15: by the end of the ring", 3, x.fewest(0, 3, 1));
        due("15: no act is done", 0, x.count(3));
        due("15: it is where it was", 0, x.about(0, 1));
        due("15: it has what it had", 2, x.about(0, 3));
    }

    /** "the first of them: of all that begin such a row the least" */
    private static void theLeastThatBegins() {
        int[] least = {1, 0, 1, 0};
        for (int town = 0; town < 4; town++) {
            OtherCoins x = withOne(LAW, 2, town, 4, 4, 4, 4);
            due("15: of both ways round from " + town, least[town], x.fewest(0, (town + 2) % 4, 1));
            for (int coin = 0; coin < 4; coin++) {
                due("15: of the coins from " + coin, 10 + coin, x.fewest(0, town, 1));
                x.purse(0, coin, 0);
            }
            due("15: none left", -1, x.fewest(0, town, 1));
        }
    }

    /** What it COSTS is there, or one coin less. */
    private static void justEnoughForTheGood() {
        for (int kind = 0; kind < 4; kind++) {
            for (int price = 1; price <= 4; price++) {
                OtherCoins x = withOne(BARE, kind, 0, 0, 0, 0, 0);
                x.price(0, price);
                int cost = x.about(0, 4);
                x.purse(0, 1, cost);
                due("15: " + kind + " has just " + cost, 1, x.fewest(0, 0, 0));
                x.purse(0, 1, cost - 1);
                due("15: " + kind + " has one less than " + cost, -1, x.fewest(0, 0, 0));
            }
        }
    }

    private static void dueRow(String law, int kind, int town, int[] coins, int good, int acts, int first) {
        OtherCoins x = withOne(law, kind, town, coins[0], coins[1], coins[2], coins[3]);
        due("15: of good " + good + " under " + law, acts, x.fewest(0, good, 0));
        due("15: of good " + good + " under " + law + ", the first", first, x.fewest(0, good, 1));
    }

    /** No bound is told of how many acts it may take: among the longest rows that a random search came upon. */
    private static void longRows() {
        dueRow("3:113/3:241/1:321/2:141", 0, 2, new int[] {1, 0, 0, 2}, 1, 266, 1);
        dueRow("123:320/03:240/3:112/2:044", 3, 1, new int[] {3, 0, 1, 2}, 1, 195, 2);
        dueRow("3:243/02:321/3:131/1:040", 0, 3, new int[] {1, 3, 2, 0}, 0, 168, 0);
        dueRow("1:323/3:341/013:121/1:041", 0, 1, new int[] {2, 0, 0, 0}, 3, 155, 2);
    }

    /** Nor of how much it can be on its ways: some 10,000 to 16,000 unlike things here. */
    private static void amongAllThatItCanBe() {
        dueRow("1:312/2:042/03:120/1:240", 3, 3, new int[] {0, 1, 3, 3}, 3, 109, 2);
        dueRow("1:140/023:022/013:111/012:014", 0, 2, new int[] {2, 0, 4, 4}, 0, 19, 1);
        dueRow("23:110/2:341/3:132/01:014", 0, 1, new int[] {3, 1, 3, 0}, 1, -1, -1);
        dueRow("1:241/23:212/03:341/012:110", 0, 0, new int[] {4, 3, 1, 4}, 0, -1, -1);
    }

    /** "UNKNOWN: person, good; OUTSIDE" */
    private static void fewestRefused() {
        OtherCoins x = withOne(LAW, 0, 0, 4, 4, 4, 4);
        for (int person : NOT_0_TO_4) {
            due("15: person " + person, -101, x.fewest(person, 0, 0));
            due("15: person " + person + ", UNKNOWN first", -101, x.fewest(person, 0, 2));
        }
        for (int good : NOT_0_TO_3) {
            due("15: good " + good, -101, x.fewest(0, good, 0));
            due("15: good " + good + ", UNKNOWN first", -101, x.fewest(0, good, -1));
        }
        for (int what : new int[] {-1, 2, Integer.MIN_VALUE, Integer.MAX_VALUE}) {
            for (int good = 0; good < 4; good++) {
                due("15: what " + what, -102, x.fewest(0, good, what));
            }
        }
        due("15: the second is not there", -101, x.fewest(1, 0, 0));
        due("26: none was done", 0, x.count(7));
    }

    /** "UNKNOWN; OUTSIDE: acts" - "(0 to 8)" */
    private static void richestRefused() {
        OtherCoins x = withOne(BARE, 0, 0, 0, 0, 0, 4);
        for (int person : NOT_0_TO_4) {
            due("16: person " + person, -101, x.richest(person, 0));
            due("16: person " + person + ", UNKNOWN first", -101, x.richest(person, -1));
        }
        for (int acts : new int[] {-1, 9, Integer.MIN_VALUE, Integer.MAX_VALUE}) {
            due("16: acts " + acts, -102, x.richest(0, acts));
        }
        due("26: none was done", 0, x.count(7));
        for (int acts = 0; acts <= 8; acts++) {
            due("16: acts " + acts, 4, x.richest(0, acts));
        }
        due("26: nine were done", 9, x.count(7));
    }

    /** "STATE: fewest(), richest() were done 40 times together ever": just 40 are answered, in any mixture. */
    private static void fortyTimesTogether() {
        for (int ofFewest = 0; ofFewest <= 40; ofFewest += 8) {
            OtherCoins x = withOne(LAW, 0, 0, 0, 2, 0, 0);
            for (int i = 0; i < 40; i++) {
                due("26: " + i + " were done", i, x.count(7));
                if (i < ofFewest) {
                    due("15: fewest " + i, i % 2 == 0 ? 1 : 11, x.fewest(0, 0, i % 2));
                } else {
                    due("16: richest " + i, 2, x.richest(0, i % 2));
                }
            }
            due("15: the 41st", -103, x.fewest(0, 0, 0));
            due("15: the 41st, the first", -103, x.fewest(0, 0, 1));
            due("16: the 41st", -103, x.richest(0, 0));
            due("26: 40 were done", 40, x.count(7));
        }
    }

    /** Whatever was answered was done; what was refused was not; gains() is neither of the two. */
    private static void whatCountsAmongTheForty() {
        OtherCoins x = withOne(BARE, 0, 0, 0, 1, 0, 0);
        x.act(0, 11);
        due("15: has it", 0, x.fewest(0, 0, 0));
        due("26: one", 1, x.count(7));
        due("15: has it, the first", -1, x.fewest(0, 0, 1));
        due("26: two", 2, x.count(7));
        due("15: by none", -1, x.fewest(0, 1, 0));
        due("26: three", 3, x.count(7));
        due("16: by no acts", 0, x.richest(0, 0));
        due("26: four", 4, x.count(7));
        x.fewest(1, 0, 0);
        x.fewest(0, 4, 0);
        x.fewest(0, 0, 2);
        x.richest(1, 0);
        x.richest(0, 9);
        x.gains(0, 1);
        x.dead(0);
        due("26: still four", 4, x.count(7));
    }

    /** "it counts on, whatever is read or restored" */
    private static void fortyEver() {
        OtherCoins x = withOne(LAW, 0, 0, 0, 2, 0, 0);
        x.image();
        for (int i = 0; i < 20; i++) {
            x.fewest(0, 0, 0);
        }
        x.restore();
        due("26: 20 behind restore()", 20, x.count(7));
        Checks.write(x, LAW);
        x.law();
        due("26: 20 behind law()", 20, x.count(7));
        Checks.someone(x, 0, 0, 0, 2, 0, 0);
        x.image();
        for (int i = 0; i < 20; i++) {
            due("16: of the second law", 2, x.richest(0, 0));
        }
        x.restore();
        due("15: not behind restore()", -103, x.fewest(0, 0, 0));
        Checks.write(x, LAW);
        x.law();
        Checks.someone(x, 0, 0, 0, 2, 0, 0);
        due("15: not behind law()", -103, x.fewest(0, 0, 0));
        due("16: not behind law()", -103, x.richest(0, 0));
        due("26: 40 for ever", 40, x.count(7));
        OtherCoins another = withOne(LAW, 0, 0, 0, 2, 0, 0);
        due("15: another object has its own", 1, another.fewest(0, 0, 0));
    }

    /** "UNKNOWN ...; OUTSIDE; STATE" in this order, behind 40 searches. */
    private static void refusalsAheadOfState() {
        OtherCoins x = withOne(LAW, 0, 0, 0, 2, 0, 0);
        for (int i = 0; i < 40; i++) {
            x.richest(0, 0);
        }
        for (int person : NOT_0_TO_4) {
            due("15: UNKNOWN first", -101, x.fewest(person, 0, 0));
            due("16: UNKNOWN first", -101, x.richest(person, 9));
        }
        due("15: UNKNOWN first", -101, x.fewest(0, 4, 2));
        due("15: OUTSIDE first", -102, x.fewest(0, 0, 2));
        due("15: OUTSIDE first", -102, x.fewest(0, 3, -1));
        due("16: OUTSIDE first", -102, x.richest(0, 9));
        due("16: OUTSIDE first", -102, x.richest(0, -1));
        due("15: STATE then", -103, x.fewest(0, 3, 1));
        due("16: STATE then", -103, x.richest(0, 8));
        x.price(0, 3);
        due("18: gains() is not bound by it", 1, x.gains(0, 2));
        due("17: dead() is not bound by it", 0, x.dead(0));
    }

    /** "behind so many ACTS (0 ...)": what it has now. */
    private static void noActsAtAll() {
        for (int v = 0; v <= 4; v++) {
            OtherCoins x = withOne("1:114/0:214/1:314/0:014", 0, 0, v, v, v, v);
            due("16: by none of 4 times " + v, 4 * v, x.richest(0, 0));
        }
    }

    /** "behind so many ACTS (... to 8)": good 0 is sold in 2 by the fourth act, good 2 in 0 by the eighth. */
    private static void eightActsAndNotNine() {
        String law = "1:114/0:210/3:314/0:010";
        OtherCoins x = withOne(law, 0, 0, 0, 1, 0, 0);
        int[] most = {1, 1, 1, 1, 4, 4, 4, 4, 7};
        for (int acts = 0; acts <= 8; acts++) {
            due("16: by " + acts, most[acts], x.richest(0, acts));
        }
        for (int town : new int[] {1, 3}) {
            OtherCoins further = withOne(law, 0, town, 0, 1, 0, 0);
            for (int acts = 0; acts <= 8; acts++) {
                due("16: from " + town + " by " + acts, acts == 0 ? 1 : most[acts - 1], further.richest(0, acts));
            }
        }
        due("16: no act is done", 0, x.count(3));
        due("16: it has what it had", 1, x.about(0, 3));
    }

    /** The eighth act still tells, where there are thousands of rows. */
    private static void amongAllRows() {
        String law = "123:311/023:212/013:012/012:111";
        int[] ofAThief = {8, 8, 8, 9, 9, 9, 10, 10, 10};
        int[] ofASmuggler = {4, 4, 4, 7, 7, 7, 10, 10, 10};
        int[] ofAMerchant = {7, 7, 7, 7, 7, 10, 10, 12, 12};
        OtherCoins x = withOne(law, 2, 0, 2, 2, 2, 2);
        OtherCoins smuggler = withOne(law, 4, 1, 1, 2, 0, 1);
        OtherCoins merchant = withOne(LAW, 3, 0, 1, 2, 3, 1);
        for (int acts = 0; acts <= 8; acts++) {
            due("16: a thief by " + acts, ofAThief[acts], x.richest(0, acts));
            due("16: a smuggler by " + acts, ofASmuggler[acts], smuggler.richest(0, acts));
            due("16: a merchant by " + acts, ofAMerchant[acts], merchant.richest(0, acts));
        }
    }

    /** "or fewer": nothing is gained by acts that would have to be done. */
    private static void orFewer() {
        OtherCoins x = withOne(BARE, 0, 0, 1, 1, 1, 1);
        for (int acts = 0; acts <= 8; acts++) {
            due("16: it keeps them, " + acts, 4, x.richest(0, acts));
        }
        OtherCoins none = withOne(LAW, 4, 0, 0, 0, 0, 0);
        for (int acts = 0; acts <= 8; acts++) {
            due("16: it has none, " + acts, 0, none.richest(0, acts));
        }
    }

    /** "The most COINS together": 4 of each are as many as can be. */
    private static void theMostThatCanBe() {
        for (int kind = 0; kind < 5; kind++) {
            OtherCoins x = withOne("123:114/023:214/013:314/012:014", kind, 0, 4, 4, 4, 4);
            due("16: 16 by 0", 16, x.richest(0, 0));
            due("16: 16 by 8", 16, x.richest(0, 8));
        }
        OtherCoins x = withOne("1:214/0:010/0:010/0:010", 0, 1, 4, 4, 0, 4);
        due("16: 12 by 2", 12, x.richest(0, 2));
        due("16: one is paid, four are got", 15, x.richest(0, 3));
    }

    /** "(each one counted)" */
    private static void deadAreCountedEach() {
        OtherCoins x = withOne(BARE, 0, 0, 4, 4, 0, 0);
        due("17: none", 0, x.dead(0));
        for (int ofTwo = 0; ofTwo <= 4; ofTwo++) {
            for (int ofThree = 0; ofThree <= 4; ofThree++) {
                x.purse(0, 2, ofTwo);
                x.purse(0, 3, ofThree);
                due("17: " + ofTwo + " and " + ofThree, ofTwo + ofThree, x.dead(0));
            }
        }
    }

    /** "of kinds with which it may pay in no TOWN" */
    private static void deadInNoTown() {
        String[] laws = {"1:110/2:210/3:310/1:110", "2:110/0:210/3:310/0:010", "1:110/0:210/3:310/0:010",
            "1:110/0:210/0:310/2:010", "2:110/2:210/3:310/2:010", BARE, LAW};
        int[] dead = {1, 2, 3, 4, 1 + 2, 3 + 4, 0};
        for (int i = 0; i < laws.length; i++) {
            for (int kind = 0; kind < 5; kind++) {
                OtherCoins x = withOne(laws[i], kind, 0, 1, 2, 3, 4);
                int want = kind == 2 || kind == 4 ? 0 : dead[i];
                due("17: kind " + kind + " under " + laws[i], want, x.dead(0));
                x.price(0, 4);
                x.act(0, 3);
                due("17: wherever it is, whatever it costs", want, x.dead(0));
            }
        }
    }

    /** "how many of its COINS" */
    private static void deadOfNobodyElse() {
        OtherCoins x = Checks.under(BARE);
        for (int i = 0; i < 5; i++) {
            Checks.someone(x, i, 0, 4, 4, 4, i);
        }
        int[] want = {4, 5, 0, 7, 0};
        for (int i = 0; i < 5; i++) {
            due("17: person " + i, want[i], x.dead(i));
        }
        for (int person : NOT_0_TO_4) {
            due("17: person " + person, -101, x.dead(person));
        }
    }

    /** "for whom FEWEST ... would be less": there is a longer row now. */
    private static void wouldBeLess() {
        // with 2 of coin 0 good 1 is not to be had for 3; by good 0, sold in 3 for 2 of coin 0, it is
        OtherCoins x = withOne("1:120/0:230/1:340/0:042", 0, 0, 2, 2, 0, 0);
        due("15: now", 6, x.fewest(0, 1, 0));
        due("18: by 3 it is the same", 0, x.gains(1, 3));
        due("18: by 2 it is less", 1, x.gains(1, 2));
        due("18: by 1 it is less", 1, x.gains(1, 1));
        due("7: by 2 indeed", 3, x.price(1, 2));
        due("15: then", 2, x.fewest(0, 1, 0));
    }

    /** "(or would be, where there is none now)" */
    private static void wouldBeWhereThereIsNone() {
        for (int kind = 0; kind < 4; kind++) {
            for (int had = 0; had <= 4; had++) {
                OtherCoins x = withOne(BARE, kind, 0, 0, had, 0, 0);
                for (int now = 1; now <= 4; now++) {
                    x.price(0, now);
                    int costs = x.about(0, 4);
                    for (int then = 1; then <= 4; then++) {
                        int wouldCost = kind == 1 ? Math.max(1, then - 1) : then;
                        due("18: " + kind + " with " + had + " from " + now + " to " + then,
                                had < costs && had >= wouldCost ? 1 : 0, x.gains(0, then));
                    }
                    due("18: the price stays", now, x.town(0, 2));
                }
            }
        }
    }

    /** Nobody's FEWEST is less by the price that is, or by more; nor whose it is already. */
    private static void theSamePriceOrMore() {
        OtherCoins x = Checks.under(LAW);
        for (int kind = 0; kind < 5; kind++) {
            Checks.someone(x, kind, kind % 4, kind, 4 - kind, 1, 2);
        }
        for (int town = 0; town < 4; town++) {
            for (int price = x.town(town, 2); price <= 4; price++) {
                due("18: town " + town + " by " + price, 0, x.gains(town, price));
            }
        }
        OtherCoins had = withOne(BARE, 0, 0, 0, 4, 0, 0);
        had.act(0, 11);
        had.price(0, 4);
        due("18: it has it", 0, had.gains(0, 1));
    }

    /** "all PEOPLE", "as bits" */
    private static void gainsOfNobodyAndOfAll() {
        OtherCoins x = Checks.under("1:140/0:010/0:010/0:010");
        due("18: nobody is there", 0, x.gains(0, 1));
        for (int i = 0; i < 5; i++) {
            due("18: so far", (1 << i) - 1, x.gains(0, 1));
            Checks.someone(x, i % 4, 0, 0, 1, 0, 0);
        }
        due("18: all five", 31, x.gains(0, 1));
        for (int i = 0; i < 4; i++) {
            x.purse(i, 1, 0);
        }
        due("18: the last alone", 16, x.gains(0, 1));
        x.purse(0, 1, 1);
        x.purse(4, 1, 0);
        due("18: the first alone", 1, x.gains(0, 1));
        due("26: gains() is not counted", 0, x.count(7));
    }

    /** GAINS by a price is what FEWEST tells when the price is that one. */
    private static void gainsAsFewestTells() {
        Random random = new Random(18);
        String[] laws = {LAW, "1:124/0:334/1:343/0:043", "12:142/023:233/13:344/01:021", "23:343/3:032/0:144/1:244"};
        for (int i = 0; i < 60; i++) {
            OtherCoins x = Checks.under(laws[i % laws.length]);
            for (int person = 0; person < 5; person++) {
                Checks.someone(x, random.nextInt(5), random.nextInt(4), random.nextInt(5), random.nextInt(3),
                        random.nextInt(3), random.nextInt(5));
            }
            for (int then = 1; then <= 4; then++) {
                int town = (i + then) % 4;
                int told = x.gains(town, then);
                int want = 0;
                for (int person = 0; person < 5; person++) {
                    int now = x.fewest(person, town, 0);
                    int was = x.price(town, then);
                    int would = x.fewest(person, town, 0);
                    x.price(town, was);
                    want |= would >= 0 && (now < 0 || would < now) ? 1 << person : 0;
                }
                due("18: run " + i + ", " + town + " by " + then, want, told);
            }
        }
    }

    /** "UNKNOWN: town; OUTSIDE: price; STATE: no LAW." */
    private static void gainsRefused() {
        OtherCoins x = withOne(LAW, 0, 0, 4, 4, 4, 4);
        OtherCoins none = new OtherCoins();
        for (int town : NOT_0_TO_3) {
            due("18: town " + town, -101, x.gains(town, 1));
            due("18: town " + town + ", UNKNOWN first", -101, none.gains(town, 0));
        }
        for (int price : NO_PRICES) {
            due("18: price " + price, -102, x.gains(3, price));
            due("18: price " + price + ", UNKNOWN first", -101, x.gains(4, price));
            due("18: price " + price + ", OUTSIDE first", -102, none.gains(0, price));
        }
        for (int town = 0; town < 4; town++) {
            due("18: no law", -103, none.gains(town, 1 + town));
        }
    }
}
