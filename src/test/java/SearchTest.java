/** Promises 15 to 18: what would be. */
final class SearchTest {
    // 0 takes 1 and 2, 1 takes 0, 2 and 3, 2 takes 1, 3 takes 0, 1 and 2
    private static final String LAW = "12:123/023:210/1:340/012:043";
    // no town takes coin 3
    private static final String POOR = "1:111/0:010/0:010/12:110";
    private static final int[] NO_NUMBERS = {-1, 5, Integer.MIN_VALUE, Integer.MAX_VALUE};
    private static final Checks CHECKS = new Checks("SearchTest");

    public static void main(String[] args) {
        fewest();
        fewestByTrade();
        fewestByLongTrade();
        fewestOfPeople();
        fewestRefused();
        searchesAreCounted();
        richest();
        dead();
        gains();
        gainsOfAll();
        gainsRefused();
        CHECKS.end();
    }

    private static void due(String what, long want, long got) {
        CHECKS.due(what, want, got);
    }

    private static void dueRow(String what, OtherCoins x, int person, int good, int acts, int first) {
        due("15: " + what + ", acts", acts, x.fewest(person, good, 0));
        due("15: " + what + ", first", first, x.fewest(person, good, 1));
    }

    private static void fewest() {
        OtherCoins x = Checks.under(LAW);
        int person = Checks.someone(x, 0, 0, 0, 2, 2, 0);
        dueRow("here, with either", x, person, 0, 1, 11);
        dueRow("next door", x, person, 1, 2, 1);
        x.purse(person, 1, 1);
        dueRow("here, with 2", x, person, 0, 1, 12);
        x.purse(person, 1, 4);
        dueRow("two towns off, by 1 and by 3", x, person, 2, 3, 1);
        dueRow("by 3", x, person, 3, 2, 3);
        x.act(person, 11);
        dueRow("has it", x, person, 0, 0, -1);
        int poor = x.person(0, 0);
        for (int good = 0; good < 4; good++) {
            dueRow("without a coin", x, poor, good, -1, -1);
        }
        due("15: nothing was done", 1, x.count(3));
        due("15: coins stay", 4, x.about(person, 3));
        due("15: it stays", 0, x.about(person, 1));
    }

    private static void fewestByTrade() {
        // from 2 of coin 1 in town 0: buys good 0 (11), goes to 3, sells it for 3 of coin 0, goes to 0, 1, buys
        OtherCoins x = Checks.under("1:121/0:330/1:340/0:043");
        int person = Checks.someone(x, 0, 0, 0, 2, 0, 0);
        dueRow("by trade", x, person, 1, 6, 11);
        dueRow("4 are never there", x, person, 3, -1, -1);
        x.price(3, 3);
        dueRow("3 are there then", x, person, 3, 4, 11);
        x.price(0, 3);
        dueRow("by the prices of now", x, person, 3, -1, -1);
    }

    private static void fewestByLongTrade() {
        OtherCoins x = Checks.under("1:211/2:311/3:011/0:111");
        Checks.someone(x, 0, 0, 4, 4, 0, 0);
        int[] acts = {1, 6, 5, 2};
        for (int good = 0; good < 4; good++) {
            due("15: far " + good, acts[good], x.fewest(0, good, 0));
        }
        OtherCoins dear = Checks.under("1:344/2:044/3:144/0:244");
        Checks.someone(dear, 0, 0, 0, 4, 0, 0);
        Checks.someone(dear, 1, 1, 0, 0, 4, 0);
        Checks.someone(dear, 3, 3, 4, 0, 0, 0);
        Checks.someone(dear, 4, 0, 0, 4, 0, 0);
        dueRow("of a person", dear, 0, 2, 11, 11);
        dueRow("of a beggar", dear, 1, 2, 6, 12);
        dueRow("of a merchant", dear, 2, 2, -1, -1);
        dueRow("of a smuggler", dear, 3, 2, 3, 1);
    }

    private static void fewestOfPeople() {
        OtherCoins x = Checks.under(LAW);
        int[] acts = {-1, 1, -1, -1, 1};
        int[] coins = {0, 1, 0, 0, 0};
        for (int kind = 0; kind < 5; kind++) {
            Checks.someone(x, kind, 0, kind == 4 ? 2 : 0, coins[kind], 0, 0);
            due("15: kind " + kind, acts[kind], x.fewest(kind, 0, 0));
        }
        due("15: a smuggler with the town's own", 10, x.fewest(4, 0, 1));
        x.purse(2, 3, 3);
        due("15: a thief with any", 13, x.fewest(2, 0, 1));
    }

    private static void fewestRefused() {
        OtherCoins x = Checks.under(LAW);
        x.person(0, 0);
        for (int person : NO_NUMBERS) {
            due("15: nobody", -101, x.fewest(person, 0, 0));
            due("16: nobody", -101, x.richest(person, 0));
            due("16: UNKNOWN first", -101, x.richest(person, 9));
        }
        for (int good : new int[] {-1, 4, Integer.MIN_VALUE, Integer.MAX_VALUE}) {
            due("15: no good", -101, x.fewest(0, good, 0));
            due("15: UNKNOWN first", -101, x.fewest(0, good, 2));
        }
        for (int what : new int[] {-1, 2, Integer.MIN_VALUE, Integer.MAX_VALUE}) {
            due("15: outside", -102, x.fewest(0, 0, what));
        }
        for (int acts : new int[] {-1, 9, Integer.MIN_VALUE, Integer.MAX_VALUE}) {
            due("16: outside", -102, x.richest(0, acts));
        }
        due("15: none of these was done", 0, x.count(7));
    }

    private static void searchesAreCounted() {
        OtherCoins x = Checks.under(LAW);
        int person = Checks.someone(x, 0, 0, 0, 2, 0, 0);
        x.image();
        for (int i = 0; i < 39; i++) {
            if (i % 3 == 0) {
                due("16: richest " + i, 2, x.richest(person, 0));
            } else {
                due("15: fewest " + i, 1, x.fewest(person, 0, 0));
            }
            due("15: so many were done", i + 1, x.count(7));
            if (i == 20) {
                x.restore();
            }
            if (i == 30) {
                Checks.write(x, LAW);
                x.law();
                person = Checks.someone(x, 0, 0, 0, 2, 0, 0);
            }
        }
        due("15: the 40th", 11, x.fewest(person, 0, 1));
        due("15: the 41st", -103, x.fewest(person, 0, 0));
        due("16: the 41st", -103, x.richest(person, 1));
        due("15: 40 were done", 40, x.count(7));
        due("15: OUTSIDE first", -102, x.fewest(person, 0, 2));
        due("15: UNKNOWN first", -101, x.fewest(person, 4, 0));
        due("16: OUTSIDE first", -102, x.richest(person, 9));
        due("18: gains goes on", 0, x.gains(0, 1));
        Checks.write(x, LAW);
        x.law();
        x.person(0, 0);
        due("15: another law does not help", -103, x.fewest(0, 0, 0));
        due("16: another law does not help", -103, x.richest(0, 0));
    }

    private static void richest() {
        // good 0 costs 1 of coin 1; 3 pays 3 of coin 1 for it: two more by four acts
        OtherCoins x = Checks.under("1:114/0:010/0:010/0:143");
        int person = Checks.someone(x, 0, 0, 0, 1, 0, 0);
        int[] most = {1, 1, 1, 3, 3, 3, 3, 3, 3};
        for (int acts = 0; acts <= 8; acts++) {
            due("16: richest " + acts, most[acts], x.richest(person, acts));
        }
        int smuggler = Checks.someone(x, 4, 0, 4, 1, 4, 4);
        due("16: fewer acts, too", 13, x.richest(smuggler, 1));
        due("16: nothing fits", 13, x.richest(smuggler, 3));
        x.purse(smuggler, 0, 3);
        due("16: of all its coins", 12, x.richest(smuggler, 2));
        due("16: without a coin", 0, x.richest(x.person(0, 0), 8));
        int merchant = Checks.someone(x, 3, 0, 0, 1, 0, 0);
        due("16: a merchant", 4, x.richest(merchant, 3));
        due("16: no act is done", 0, x.count(3));
        x.price(0, 2);
        due("16: by the prices of now", 1, x.richest(person, 8));
    }

    private static void dead() {
        OtherCoins x = Checks.under(POOR);
        for (int kind = 0; kind < 5; kind++) {
            Checks.someone(x, kind, kind % 4, 1, 2, 3, 4);
        }
        int[] dead = {4, 4, 0, 4, 0};
        for (int kind = 0; kind < 5; kind++) {
            due("17: kind " + kind, dead[kind], x.dead(kind));
        }
        x.purse(0, 3, 1);
        due("17: each is counted", 1, x.dead(0));
        x.purse(0, 3, 0);
        due("17: none", 0, x.dead(0));
        for (int person : NO_NUMBERS) {
            due("17: nobody", -101, x.dead(person));
        }
        OtherCoins two = Checks.under("1:111/0:010/0:010/0:010");
        Checks.someone(two, 0, 0, 1, 2, 3, 4);
        due("17: of two kinds", 7, two.dead(0));
        two.price(0, 4);
        due("17: a price is no matter", 7, two.dead(0));
        OtherCoins first = Checks.under("1:111/2:010/3:010/1:110");
        Checks.someone(first, 3, 0, 4, 2, 0, 1);
        due("17: coin 0, and 2 and 3 each taken by one town", 4, first.dead(0));
        OtherCoins last = Checks.under("1:111/3:010/0:010/1:110");
        Checks.someone(last, 1, 0, 4, 2, 3, 1);
        due("17: coin 2, and 0 taken by town 2 alone", 3, last.dead(0));
        OtherCoins all = Checks.under(LAW);
        Checks.someone(all, 0, 2, 4, 4, 4, 4);
        due("17: taken somewhere", 0, all.dead(0));
    }

    private static void gains() {
        OtherCoins x = Checks.under("1:140/0:010/0:010/0:010");
        Checks.someone(x, 0, 0, 0, 3, 0, 0);
        Checks.someone(x, 0, 0, 0, 4, 0, 0);
        Checks.someone(x, 1, 0, 0, 3, 0, 0);
        Checks.someone(x, 2, 2, 0, 0, 3, 0);
        Checks.someone(x, 0, 1, 0, 2, 0, 0);
        due("18: the same price", 0, x.gains(0, 4));
        due("18: by 3", 1 | 8, x.gains(0, 3));
        due("18: by 2", 1 | 8 | 16, x.gains(0, 2));
        due("18: by 1", 1 | 8 | 16, x.gains(0, 1));
        due("18: the price stays", 4, x.town(0, 2));
        x.purse(2, 1, 1);
        due("18: a beggar's 1 of 2", 1 | 4 | 8 | 16, x.gains(0, 2));
        x.price(0, 2);
        due("18: a beggar gains nothing from 2 to 1", 0, x.gains(0, 1) & 4);
        x.price(0, 1);
        due("18: nobody gains by more", 0, x.gains(0, 4));
        due("18: not counted with fewest", 0, x.count(7));
        OtherCoins had = Checks.under("1:140/0:010/0:010/0:010");
        Checks.someone(had, 0, 0, 0, 4, 0, 0);
        had.act(0, 11);
        had.purse(0, 1, 3);
        due("18: who has it", 0, had.gains(0, 1));
    }

    private static void gainsOfAll() {
        // town 1 asks 3 of coin 0; who has 2 of them may not get 3 more in town 3 for good 0
        OtherCoins x = Checks.under("1:121/0:330/1:340/0:043");
        Checks.someone(x, 0, 0, 2, 2, 0, 0);
        Checks.someone(x, 0, 0, 0, 2, 0, 0);
        Checks.someone(x, 0, 0, 3, 2, 0, 0);
        due("18: fewer acts where there are some now", 1, x.gains(1, 2));
        x.price(1, 4);
        due("18: none now, by trade then; 2 and 3 are above 4", 2 | 4, x.gains(1, 3));
        due("18: none now", -1, x.fewest(1, 1, 0));
        OtherCoins nobody = Checks.under(POOR);
        due("18: nobody", 0, nobody.gains(0, 1));
    }

    private static void gainsRefused() {
        OtherCoins x = Checks.under(LAW);
        for (int town : new int[] {-1, 4, Integer.MIN_VALUE, Integer.MAX_VALUE}) {
            due("18: no town", -101, x.gains(town, 1));
            due("18: UNKNOWN first", -101, x.gains(town, 0));
        }
        for (int price : new int[] {0, 5, -1, Integer.MIN_VALUE, Integer.MAX_VALUE}) {
            due("18: outside", -102, x.gains(0, price));
        }
        OtherCoins none = new OtherCoins();
        due("18: no law", -103, none.gains(0, 1));
        due("18: no law, OUTSIDE first", -102, none.gains(0, 0));
        due("18: no law, UNKNOWN first", -101, none.gains(4, 1));
    }
}
