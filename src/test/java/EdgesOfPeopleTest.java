/** The edges that the document names of people (promises 8 to 14), a test for each sentence. */
final class EdgesOfPeopleTest {
    // 0 takes 1 and 2, gives 1, asks 2, pays 3; 1 takes 0, 2 and 3, gives 2, asks 1, pays 0
    // 2 takes 1, gives 3, asks 4, pays 0; 3 takes 0, 1 and 2, gives 0, asks 4, pays 3
    private static final String LAW = "12:123/023:210/1:340/012:043";
    private static final int[] NOT_0_TO_3 = {-1, 4, Integer.MIN_VALUE, Integer.MAX_VALUE};
    private static final int[] NOT_0_TO_4 = {-1, 5, Integer.MIN_VALUE, Integer.MAX_VALUE};
    private static final int[] NO_ACTS = {-1, 4, 9, 14, 19, 24, 30, Integer.MIN_VALUE, Integer.MIN_VALUE + 10,
        Integer.MIN_VALUE + 20, Integer.MAX_VALUE};
    private static final Checks CHECKS = new Checks("EdgesOfPeopleTest");

    public static void main(String[] args) {
        fiveAtMost();
        personRefused();
        noneAtFirst();
        whatIsTold();
        costsOneAtLeast();
        getsOfEachKind();
        aSmugglerIsAMerchantToo();
        purseZeroToFour();
        unknownPeople();
        oneTownJoinedWithItsOwn();
        hasWhatItCosts();
        withOneKind();
        doesNotHaveTheGood();
        coinsOfTheTownItself();
        notThatOfItsTown();
        notMoreThanFour();
        unknownActs();
        coinsTogetherThen();
        anActThatMayNotBe();
        oneCoinForOne();
        moreThanFourOfOne();
        alike();
        changeOfWhom();
        inTheSameTown();
        CHECKS.end();
    }

    private static void due(String what, long want, long got) {
        CHECKS.due(what, want, got);
    }

    private static OtherCoins withOne(int kind, int town, int coins0, int coins1, int coins2, int coins3) {
        OtherCoins x = Checks.under(LAW);
        Checks.someone(x, kind, town, coins0, coins1, coins2, coins3);
        return x;
    }

    /** "PEOPLE (5 at most, numbered)"; "FULL" */
    private static void fiveAtMost() {
        OtherCoins x = Checks.under(LAW);
        for (int i = 0; i < 5; i++) {
            due("8: number", i, x.person(4 - i, 3 - i % 4));
            due("8: so many", i + 1, x.count(1));
        }
        due("8: a sixth", -104, x.person(0, 0));
        due("8: a sixth of another kind", -104, x.person(4, 3));
        due("8: five", 5, x.count(1));
        due("8: the fifth stays", 0, x.about(4, 0));
        due("8: UNKNOWN ahead of FULL", -101, x.person(0, 4));
        due("8: OUTSIDE ahead of FULL", -102, x.person(5, 0));
    }

    /** "UNKNOWN: town; OUTSIDE: kind; STATE: no LAW; FULL." */
    private static void personRefused() {
        OtherCoins x = Checks.under(LAW);
        OtherCoins none = new OtherCoins();
        for (int town : NOT_0_TO_3) {
            due("8: town " + town, -101, x.person(0, town));
            due("8: town " + town + ", UNKNOWN first", -101, x.person(5, town));
            due("8: town " + town + " without a law", -101, none.person(-1, town));
        }
        for (int kind : NOT_0_TO_4) {
            due("8: kind " + kind, -102, x.person(kind, 0));
            due("8: kind " + kind + " without a law", -102, none.person(kind, 3));
        }
        due("8: nobody came", 0, x.count(1));
        due("8: no law", -103, none.person(4, 3));
        due("8: nobody without a law", 0, none.count(1));
    }

    /** "none at first", for coins and goods, also where another one had some. */
    private static void noneAtFirst() {
        OtherCoins x = Checks.under(LAW);
        x.image();
        Checks.someone(x, 4, 1, 4, 4, 4, 4);
        due("8: it buys", 15, x.act(0, 11));
        x.restore();
        due("8: in its place", 0, x.person(0, 2));
        for (int coin = 0; coin < 4; coin++) {
            due("8: none of " + coin, 0, x.about(0, 10 + coin));
        }
        due("8: no good", 0, x.about(0, 2));
        due("8: no coin", 0, x.about(0, 3));
        due("8: in its own town", 2, x.about(0, 1));
        due("8: of its own kind", 0, x.about(0, 0));
    }

    /** "Of a PERSON: what = 0 ... 5 ... 10 to 13"; "UNKNOWN; OUTSIDE." */
    private static void whatIsTold() {
        OtherCoins x = withOne(4, 3, 0, 4, 1, 2);
        int[] due = {4, 3, 0, 7, 4, 5};
        for (int what = 0; what < due.length; what++) {
            due("9: what " + what, due[what], x.about(0, what));
        }
        int[] coins = {0, 4, 1, 2};
        for (int coin = 0; coin < 4; coin++) {
            due("9: coins " + coin, coins[coin], x.about(0, 10 + coin));
        }
        for (int what : new int[] {-1, 6, 9, 14, Integer.MIN_VALUE, Integer.MIN_VALUE + 9, Integer.MIN_VALUE + 10,
            Integer.MAX_VALUE}) {
            due("9: what " + what, -102, x.about(0, what));
            due("9: UNKNOWN first, " + what, -101, x.about(1, what));
        }
        Checks.someone(x, 0, 0, 4, 4, 4, 4);
        due("9: the most together", 16, x.about(1, 3));
        OtherCoins all = withOne(2, 0, 4, 4, 4, 4);
        for (int town = 0; town < 4; town++) {
            all.act(0, town);
            all.act(0, 10 + town);
        }
        due("9: all goods", 15, all.about(0, 2));
        due("9: what is left", 16 - 2 - 1 - 4 - 4, all.about(0, 3));
    }

    /** "PRICE of the TOWN; of a BEGGAR 1 less (1 at least)" */
    private static void costsOneAtLeast() {
        OtherCoins x = Checks.under(LAW);
        for (int kind = 0; kind < 5; kind++) {
            x.person(kind, 1);
        }
        int[] ofABeggar = {0, 1, 1, 2, 3};
        for (int price = 1; price <= 4; price++) {
            x.price(1, price);
            for (int kind = 0; kind < 5; kind++) {
                due("9: costs " + kind + " of " + price, kind == 1 ? ofABeggar[price] : price, x.about(kind, 4));
            }
        }
        x.price(1, 1);
        x.purse(1, 0, 0);
        due("12: a beggar pays, too", 0, x.may(1, 10));
        x.purse(1, 0, 1);
        due("12: 1 is enough", 1, x.may(1, 10));
        due("13: and gone then", 0, x.act(1, 10));
    }

    /** "PAY; of a MERCHANT 1 more, of a SMUGGLER 2 more in all" */
    private static void getsOfEachKind() {
        int[] more = {0, 0, 0, 1, 2};
        for (int pay = 0; pay <= 4; pay++) {
            OtherCoins x = Checks.under("1:114/0:010/0:010/0:01" + pay);
            for (int kind = 0; kind < 5; kind++) {
                x.person(kind, 3);
                due("9: gets " + kind + " of " + pay, pay + more[kind], x.about(kind, 5));
            }
        }
    }

    /** "All are PERSONS; a SMUGGLER is a MERCHANT, too."; "NONE: it is none such" */
    private static void aSmugglerIsAMerchantToo() {
        OtherCoins x = Checks.under(LAW);
        int[] kindsOf = {4, 3, 2, 1, 0};
        for (int kind : kindsOf) {
            x.person(kind, 0);
        }
        for (int person = 0; person < 5; person++) {
            for (int kind = 0; kind < 5; kind++) {
                boolean such = kind == 0 || kind == kindsOf[person] || (kind == 3 && kindsOf[person] == 4);
                due("10: " + kindsOf[person] + " as " + kind, such ? person : -1, x.as(person, kind));
            }
            for (int kind : NOT_0_TO_4) {
                due("10: kind " + kind, -102, x.as(person, kind));
            }
        }
        for (int person : NOT_0_TO_4) {
            due("10: person " + person, -101, x.as(person, 0));
            due("10: UNKNOWN first, " + person, -101, x.as(person, 5));
        }
    }

    /** "It has v of a COIN then: how many it had."; "OUTSIDE: v (0 to 4)" */
    private static void purseZeroToFour() {
        OtherCoins x = withOne(0, 0, 0, 0, 0, 0);
        for (int coin = 0; coin < 4; coin++) {
            for (int v : NOT_0_TO_4) {
                due("11: v " + v, -102, x.purse(0, coin, v));
            }
            for (int v = 0; v <= 4; v++) {
                due("11: what it had", Math.max(0, v - 1), x.purse(0, coin, v));
                due("11: what it has", v, x.about(0, 10 + coin));
                due("11: together", 4 * coin + v, x.about(0, 3));
            }
        }
        for (int coin : NOT_0_TO_3) {
            due("11: coin " + coin, -101, x.purse(0, coin, 1));
            due("11: UNKNOWN first, coin " + coin, -101, x.purse(0, coin, 5));
        }
        for (int person : NOT_0_TO_4) {
            due("11: person " + person, -101, x.purse(person, 0, 1));
            due("11: UNKNOWN first, person " + person, -101, x.purse(person, 0, -1));
        }
        due("11: nothing came of these", 16, x.count(0));
        for (int coin = 0; coin < 4; coin++) {
            due("11: emptied", 4, x.purse(0, coin, 0));
        }
        due("11: nothing left", 0, x.about(0, 3));
    }

    /** "UNKNOWN" of each call that names a person: the number behind the last one, and none without a law. */
    private static void unknownPeople() {
        for (int n = 0; n <= 5; n++) {
            OtherCoins x = n == 0 ? new OtherCoins() : Checks.under(LAW);
            for (int i = 0; i < n; i++) {
                x.person(0, 0);
            }
            for (int person : new int[] {-1, n, 5, Integer.MIN_VALUE, Integer.MAX_VALUE}) {
                due("9: unknown of " + n, -101, x.about(person, 1));
                due("10: unknown of " + n, -101, x.as(person, 0));
                due("11: unknown of " + n, -101, x.purse(person, 0, 0));
                due("12: unknown of " + n, -101, x.may(person, 1));
                due("13: unknown of " + n, -101, x.act(person, 1));
                due("15: unknown of " + n, -101, x.fewest(person, 0, 0));
                due("16: unknown of " + n, -101, x.richest(person, 0));
                due("17: unknown of " + n, -101, x.dead(person));
                due("19: unknown of " + n, -101, x.trail(person));
                due("23: unknown of " + n, -101, x.walk(person, 1, 0, 0));
            }
            if (n > 0) {
                due("9: the last of " + n, 0, x.about(n - 1, 1));
                due("17: the last of " + n, 0, x.dead(n - 1));
                due("19: the last of " + n, 0, x.trail(n - 1));
            }
        }
    }

    /** "goes to that TOWN (one joined with its own)"; "0 is joined with 1 and 3, and so on" */
    private static void oneTownJoinedWithItsOwn() {
        int[][] joined = {{0, 1, 0, 1}, {1, 0, 1, 0}, {0, 1, 0, 1}, {1, 0, 1, 0}};
        for (int from = 0; from < 4; from++) {
            for (int to = 0; to < 4; to++) {
                OtherCoins x = withOne(0, from, 0, 0, 0, 0);
                due("12: from " + from + " to " + to, joined[from][to], x.may(0, to));
                due("13: from " + from + " to " + to, joined[from][to] == 1 ? 0 : -103, x.act(0, to));
                due("13: is then in", joined[from][to] == 1 ? to : from, x.about(0, 1));
            }
        }
    }

    /** "it has what it COSTS": just so many, and one less. */
    private static void hasWhatItCosts() {
        for (int kind = 0; kind < 5; kind++) {
            for (int price = 1; price <= 4; price++) {
                OtherCoins x = withOne(kind, 1, 0, 0, 0, 0);
                x.price(1, price);
                int cost = x.about(0, 4);
                for (int had = 0; had <= 4; had++) {
                    x.purse(0, 3, had);
                    due("12: " + kind + " has " + had + " of " + price, had >= cost ? 1 : 0, x.may(0, 13));
                }
                x.purse(0, 3, cost - 1);
                due("13: one less", -103, x.act(0, 13));
                x.purse(0, 3, cost);
                due("13: just so many", 0, x.act(0, 13));
                due("13: it has the good", 2, x.about(0, 2));
            }
        }
    }

    /** "with one kind it may pay with" */
    private static void withOneKind() {
        OtherCoins x = withOne(0, 0, 4, 1, 1, 4);
        due("12: 1 of each is not 2 of one", 0, x.may(0, 11) + x.may(0, 12));
        due("12: with those not taken", 0, x.may(0, 10) + x.may(0, 13));
        x.purse(0, 2, 2);
        due("12: 2 of one", 1, x.may(0, 12));
        due("13: of this alone", 9, x.act(0, 12));
        due("13: the other stays", 1, x.about(0, 11));
        OtherCoins thief = withOne(2, 2, 3, 3, 3, 3);
        for (int coin = 0; coin < 4; coin++) {
            due("12: a thief's 3 of each are not 4 of one", 0, thief.may(0, 10 + coin));
        }
    }

    /** "does not have the GOOD" */
    private static void doesNotHaveTheGood() {
        OtherCoins x = withOne(0, 1, 4, 0, 4, 4);
        due("13: the first", 11, x.act(0, 10));
        for (int coin = 0; coin < 4; coin++) {
            due("12: not a second, with " + coin, 0, x.may(0, 10 + coin));
            due("13: not a second, with " + coin, -103, x.act(0, 10 + coin));
        }
        due("13: its coins stay", 11, x.about(0, 3));
        x.act(0, 0);
        due("12: that of another town", 1, x.may(0, 12));
        due("13: sold", 11 + 3, x.act(0, 21));
        x.act(0, 1);
        due("12: sold, it is bought again", 1, x.may(0, 10));
    }

    /** "a THIEF, a SMUGGLER with any (that of the TOWN itself, too)" */
    private static void coinsOfTheTownItself() {
        int[][] taken = {{0, 1, 1, 0}, {1, 0, 1, 1}, {0, 1, 0, 0}, {1, 1, 1, 0}};
        for (int kind = 0; kind < 5; kind++) {
            for (int town = 0; town < 4; town++) {
                OtherCoins x = withOne(kind, town, 4, 4, 4, 4);
                for (int coin = 0; coin < 4; coin++) {
                    boolean any = kind == 2 || kind == 4;
                    due("12: kind " + kind + " in " + town + " with " + coin, any ? 1 : taken[town][coin], x.may(0, 10 + coin));
                }
            }
        }
    }

    /** "it has it, and it is not that of its TOWN" */
    private static void notThatOfItsTown() {
        for (int good = 0; good < 4; good++) {
            OtherCoins x = Checks.under("1:110/0:010/0:010/0:010");
            Checks.someone(x, 2, good, 4, 0, 0, 0);
            for (int other = 0; other < 4; other++) {
                due("12: it has none: " + other, 0, x.may(0, 20 + other));
            }
            x.act(0, 10);
            due("12: not at home: " + good, 0, x.may(0, 20 + good));
            due("13: not at home: " + good, -103, x.act(0, 20 + good));
            x.act(0, (good + 1) % 4);
            for (int other = 0; other < 4; other++) {
                due("12: next door, " + other + " of " + good, other == good ? 1 : 0, x.may(0, 20 + other));
            }
            due("13: sold for nothing", 3, x.act(0, 20 + good));
            due("13: not twice", -103, x.act(0, 20 + good));
        }
    }

    /** "not more than 4 of them are in a PURSE: else it may not" */
    private static void notMoreThanFour() {
        int[] kinds = {0, 3, 4};
        for (int more = 0; more < 3; more++) {
            for (int pay = 0; pay <= 4; pay++) {
                for (int had = 0; had <= 4; had++) {
                    OtherCoins x = Checks.under("1:21" + pay + "/0:010/0:010/0:010");
                    Checks.someone(x, kinds[more], 1, 1, 4, 0, 4);
                    x.act(0, 10);
                    x.act(0, 0);
                    x.purse(0, 2, had);
                    boolean may = had + pay + more <= 4;
                    String what = had + " and " + pay + " and " + more;
                    due("12: " + what, may ? 1 : 0, x.may(0, 21));
                    due("13: " + what, may ? 8 + had + pay + more : -103, x.act(0, 21));
                    due("13: then of this coin, " + what, may ? had + pay + more : had, x.about(0, 12));
                    due("13: the good, " + what, may ? 0 : 2, x.about(0, 2));
                }
            }
        }
    }

    /** "act (0 to 3, 10 to 13, 20 to 23)" */
    private static void unknownActs() {
        OtherCoins x = withOne(4, 0, 4, 4, 4, 4);
        for (int act : NO_ACTS) {
            due("12: act " + act, -101, x.may(0, act));
            due("13: act " + act, -101, x.act(0, act));
        }
        for (int i = 0; i < 4; i++) {
            due("12: goes to " + i, i % 2, x.may(0, i));
            due("12: buys with " + i, 1, x.may(0, 10 + i));
            due("12: sells " + i, 0, x.may(0, 20 + i));
        }
        due("13: none was done", 0, x.count(3));
    }

    /** "how many COINS together it has then": none, and the most. */
    private static void coinsTogetherThen() {
        OtherCoins x = withOne(0, 1, 1, 0, 0, 0);
        due("13: the last one is paid", 0, x.act(0, 10));
        due("13: goes without any", 0, x.act(0, 0));
        OtherCoins rich = Checks.under("1:214/0:010/0:010/0:010");
        Checks.someone(rich, 0, 1, 1, 4, 0, 4);
        rich.act(0, 10);
        rich.purse(0, 0, 4);
        due("13: goes with 12", 12, rich.act(0, 0));
        due("13: 16 are the most", 16, rich.act(0, 21));
        due("13: goes with 16", 16, rich.act(0, 3));
        due("26: of all", 16, rich.count(0));
    }

    /** "STATE: it MAY not be" - and an act that is refused is none that was done. */
    private static void anActThatMayNotBe() {
        OtherCoins x = withOne(0, 0, 4, 4, 4, 4);
        for (int act : new int[] {0, 2, 10, 13, 20, 21, 22, 23}) {
            due("13: " + act, -103, x.act(0, act));
        }
        due("13: none was done", 0, x.count(3));
        due("13: it is where it was", 0, x.about(0, 1));
        due("13: it has what it had", 16, x.about(0, 3));
        due("13: UNKNOWN first", -101, x.act(1, 0));
        x.act(0, 1);
        due("13: one was done", 1, x.count(3));
    }

    /** "change one COIN for one: how many of COIN c a has then"; "a has no COIN c, b no COIN d" */
    private static void oneCoinForOne() {
        OtherCoins x = withOne(0, 0, 1, 0, 0, 3);
        Checks.someone(x, 0, 0, 0, 1, 0, 3);
        due("14: a has none", -103, x.change(0, 1, 1, 3));
        due("14: b has none", -103, x.change(0, 0, 1, 0));
        due("14: neither has one", -103, x.change(0, 2, 1, 2));
        due("14: its last", 0, x.change(0, 0, 1, 1));
        due("14: now b has it", 1, x.about(1, 10));
        due("14: now a has the other", 1, x.about(0, 11));
        due("14: and b none of it", 0, x.about(1, 11));
        due("14: a has none any more", -103, x.change(0, 0, 1, 3));
        due("14: coins of all stay", 8, x.count(0));
        due("14: it is no act", 0, x.count(3));
    }

    /** "or one would have more than 4 of one" */
    private static void moreThanFourOfOne() {
        for (int ofA = 0; ofA <= 4; ofA++) {
            for (int ofB = 0; ofB <= 4; ofB++) {
                OtherCoins x = withOne(0, 2, 2, 0, 0, ofA);
                Checks.someone(x, 3, 2, ofB, 0, 0, 2);
                boolean may = ofA < 4 && ofB < 4;
                due("14: a has " + ofA + ", b " + ofB, may ? 1 : -103, x.change(0, 0, 1, 3));
                due("14: a then", may ? ofA + 1 : ofA, x.about(0, 13));
                due("14: b then", may ? ofB + 1 : ofB, x.about(1, 10));
                due("14: b's others", may ? 1 : 2, x.about(1, 13));
            }
        }
    }

    /** "c and d alike: nothing changes, 4 of it are no hindrance" */
    private static void alike() {
        for (int coin = 0; coin < 4; coin++) {
            for (int ofA = 0; ofA <= 4; ofA++) {
                for (int ofB = 0; ofB <= 4; ofB++) {
                    OtherCoins x = Checks.under(LAW);
                    x.person(0, 1);
                    x.person(1, 1);
                    x.purse(0, coin, ofA);
                    x.purse(1, coin, ofB);
                    due("14: alike, " + ofA + " and " + ofB, ofA > 0 && ofB > 0 ? ofA : -103, x.change(0, coin, 1, coin));
                    due("14: alike, a's stay", ofA, x.about(0, 10 + coin));
                    due("14: alike, b's stay", ofB, x.about(1, 10 + coin));
                }
            }
        }
    }

    /** "UNKNOWN: a, b, or they are the same, c, d", ahead of STATE */
    private static void changeOfWhom() {
        OtherCoins x = withOne(0, 0, 2, 2, 2, 2);
        Checks.someone(x, 0, 0, 2, 2, 2, 2);
        Checks.someone(x, 0, 1, 0, 0, 0, 0);
        for (int nobody : new int[] {-1, 3, 5, Integer.MIN_VALUE, Integer.MAX_VALUE}) {
            due("14: a is " + nobody, -101, x.change(nobody, 0, 1, 1));
            due("14: b is " + nobody, -101, x.change(0, 0, nobody, 1));
            due("14: both are " + nobody, -101, x.change(nobody, 0, nobody, 1));
        }
        for (int person = 0; person < 3; person++) {
            due("14: the same", -101, x.change(person, 0, person, 1));
            due("14: the same, alike", -101, x.change(person, 0, person, 0));
        }
        for (int coin : NOT_0_TO_3) {
            due("14: c is " + coin, -101, x.change(0, coin, 1, 1));
            due("14: d is " + coin, -101, x.change(0, 1, 1, coin));
            due("14: both are " + coin, -101, x.change(0, coin, 1, coin));
            due("14: UNKNOWN ahead of STATE", -101, x.change(0, 0, 2, coin));
        }
        due("14: nothing came of these", 16, x.count(0));
        due("14: the last coin", 1, x.change(0, 3, 1, 0));
    }

    /** "STATE: they are not in the same TOWN" */
    private static void inTheSameTown() {
        for (int one = 0; one < 4; one++) {
            for (int other = 0; other < 4; other++) {
                OtherCoins x = withOne(0, one, 2, 2, 2, 2);
                Checks.someone(x, 4, other, 2, 2, 2, 2);
                due("14: from " + one + " to " + other, one == other ? 1 : -103, x.change(0, 0, 1, 3));
                due("14: alike, from " + one + " to " + other, one == other ? 2 : -103, x.change(0, 1, 1, 1));
            }
        }
    }
}
