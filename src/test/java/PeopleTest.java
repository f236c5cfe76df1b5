/** Promises 8 to 14: people. */
final class PeopleTest {
    private static final String LAW = "12:123/023:210/1:340/012:043";
    private static final int[] NO_NUMBERS = {-1, 5, Integer.MIN_VALUE, Integer.MAX_VALUE};
    private static final int[] ACTS = {0, 1, 2, 3, 10, 11, 12, 13, 20, 21, 22, 23};
    private static final int[] NO_ACTS = {-1, 4, 9, 14, 19, 24, 30, Integer.MIN_VALUE, Integer.MAX_VALUE};
    private static final Checks CHECKS = new Checks("PeopleTest");

    public static void main(String[] args) {
        person();
        about();
        as();
        purse();
        mayGo();
        mayBuy();
        maySell();
        mayRefused();
        act();
        change();
        changeRefused();
        CHECKS.end();
    }

    private static void due(String what, long want, long got) {
        CHECKS.due(what, want, got);
    }

    private static void person() {
        OtherCoins x = Checks.under(LAW);
        due("8: town 4", -101, x.person(0, 4));
        due("8: town -1", -101, x.person(0, -1));
        due("8: kind 5", -102, x.person(5, 0));
        due("8: kind -1", -102, x.person(-1, 0));
        due("8: UNKNOWN first", -101, x.person(9, 9));
        for (int kind = 0; kind < 5; kind++) {
            due("8: number", kind, x.person(kind, 3 - kind % 4));
            due("8: kind", kind, x.about(kind, 0));
            due("8: town", 3 - kind % 4, x.about(kind, 1));
        }
        due("8: full", -104, x.person(0, 0));
        due("8: UNKNOWN ahead of FULL", -101, x.person(0, 4));
        due("8: OUTSIDE ahead of FULL", -102, x.person(5, 0));
        due("8: five", 5, x.count(1));
        OtherCoins none = new OtherCoins();
        due("8: no law", -103, none.person(0, 0));
        due("8: no law, OUTSIDE first", -102, none.person(5, 0));
        due("8: no law, UNKNOWN first", -101, none.person(0, 4));
    }

    private static void about() {
        OtherCoins x = Checks.under(LAW);
        int[] costs = {2, 1, 2, 2, 2};
        int[] gets = {3, 3, 3, 4, 5};
        for (int kind = 0; kind < 5; kind++) {
            x.person(kind, 0);
            due("9: kind", kind, x.about(kind, 0));
            due("9: costs", costs[kind], x.about(kind, 4));
            due("9: gets", gets[kind], x.about(kind, 5));
            due("9: goods", 0, x.about(kind, 2));
            due("9: coins", 0, x.about(kind, 3));
        }
        x.price(0, 1);
        due("9: a beggar's, 1 at least", 1, x.about(1, 4));
        x.price(0, 4);
        due("9: a beggar's of 4", 3, x.about(1, 4));
        due("9: a merchant's of 4", 4, x.about(3, 4));
        x.purse(4, 0, 1);
        x.purse(4, 1, 2);
        x.purse(4, 2, 4);
        x.purse(4, 3, 3);
        int[] coins = {1, 2, 4, 3};
        for (int coin = 0; coin < 4; coin++) {
            due("9: coins of " + coin, coins[coin], x.about(4, 10 + coin));
            due("9: nobody else's", 0, x.about(3, 10 + coin));
        }
        due("9: together", 10, x.about(4, 3));
        x.act(4, 12);
        due("9: a good", 1, x.about(4, 2));
        x.act(4, 3);
        due("9: town 3", 3, x.about(4, 1));
        due("9: costs there", 4, x.about(4, 4));
        due("9: gets there", 5, x.about(4, 5));
        x.purse(4, 1, 4);
        x.act(4, 11);
        due("9: two goods", 9, x.about(4, 2));
        for (int what : new int[] {-1, 6, 7, 8, 9, 14, 20, Integer.MIN_VALUE, Integer.MIN_VALUE + 10, Integer.MAX_VALUE}) {
            due("9: outside " + what, -102, x.about(4, what));
        }
        for (int person : NO_NUMBERS) {
            due("9: nobody", -101, x.about(person, 0));
            due("9: UNKNOWN first", -101, x.about(person, 6));
        }
    }

    private static void as() {
        OtherCoins x = Checks.under(LAW);
        int[][] also = {{1, 0, 0, 0, 0}, {1, 1, 0, 0, 0}, {1, 0, 1, 0, 0}, {1, 0, 0, 1, 0}, {1, 0, 0, 1, 1}};
        for (int i = 0; i < 5; i++) {
            x.person(4 - i, 0);
        }
        for (int person = 0; person < 5; person++) {
            for (int kind = 0; kind < 5; kind++) {
                due("10: as " + (4 - person) + ", " + kind, also[4 - person][kind] == 1 ? person : -1, x.as(person, kind));
            }
        }
        due("10: kind 5", -102, x.as(0, 5));
        due("10: kind -1", -102, x.as(0, -1));
        due("10: nobody", -101, x.as(5, 0));
        due("10: UNKNOWN first", -101, x.as(-1, 5));
    }

    private static void purse() {
        OtherCoins x = Checks.under(LAW);
        x.person(0, 0);
        x.person(0, 0);
        for (int coin = 0; coin < 4; coin++) {
            due("11: had none", 0, x.purse(0, coin, 4));
            due("11: had 4", 4, x.purse(0, coin, 1));
            due("11: had 1", 1, x.purse(0, coin, coin));
            due("11: has", coin, x.about(0, 10 + coin));
        }
        due("11: together", 6, x.about(0, 3));
        due("11: another's", 0, x.about(1, 3));
        due("11: 5", -102, x.purse(0, 0, 5));
        due("11: -1", -102, x.purse(0, 0, -1));
        due("11: lowest", -102, x.purse(0, 0, Integer.MIN_VALUE));
        due("11: coin 4", -101, x.purse(0, 4, 1));
        due("11: coin -1", -101, x.purse(0, -1, 1));
        due("11: nobody", -101, x.purse(2, 0, 1));
        due("11: UNKNOWN first", -101, x.purse(0, 4, 5));
        due("11: nothing came of these", 6, x.about(0, 3));
        due("11: none again", 3, x.purse(0, 3, 0));
        due("11: no acts", 0, x.count(3));
    }

    private static void mayGo() {
        OtherCoins x = Checks.under(LAW);
        for (int town = 0; town < 4; town++) {
            x.person(town, town);
            for (int to = 0; to < 4; to++) {
                int joined = to == (town + 1) % 4 || to == (town + 3) % 4 ? 1 : 0;
                due("12: from " + town + " to " + to, joined, x.may(town, to));
            }
        }
        due("12: nothing was done", 0, x.about(0, 1));
    }

    private static void dueMays(String what, OtherCoins x, int person, int... acts) {
        for (int act : ACTS) {
            int want = 0;
            for (int may : acts) {
                want |= may == act ? 1 : 0;
            }
            due("12: " + what + ", may " + act, want, x.may(person, act));
        }
    }

    private static void mayBuy() {
        OtherCoins x = Checks.under(LAW);
        for (int kind = 0; kind < 5; kind++) {
            Checks.someone(x, kind, 0, 4, 4, 4, 4);
        }
        dueMays("a person with all", x, 0, 1, 3, 11, 12);
        dueMays("a beggar with all", x, 1, 1, 3, 11, 12);
        dueMays("a thief with all", x, 2, 1, 3, 10, 11, 12, 13);
        dueMays("a merchant with all", x, 3, 1, 3, 11, 12);
        dueMays("a smuggler with all", x, 4, 1, 3, 10, 11, 12, 13);
        for (int kind = 0; kind < 5; kind++) {
            for (int coin = 0; coin < 4; coin++) {
                x.purse(kind, coin, coin == 2 ? 2 : 1);
            }
        }
        dueMays("a person with 2 of 2", x, 0, 1, 3, 12);
        dueMays("a beggar with 1 of 1", x, 1, 1, 3, 11, 12);
        dueMays("a thief with 2 of 2", x, 2, 1, 3, 12);
        dueMays("a merchant with 2 of 2", x, 3, 1, 3, 12);
        dueMays("a smuggler with 2 of 2", x, 4, 1, 3, 12);
        x.price(0, 3);
        dueMays("a dear one", x, 0, 1, 3);
        dueMays("a dear one for a beggar", x, 1, 1, 3, 12);
        x.price(0, 1);
        dueMays("a cheap one", x, 0, 1, 3, 11, 12);
        x.act(0, 12);
        dueMays("who has it", x, 0, 1, 3);
        dueMays("another has it", x, 3, 1, 3, 11, 12);
    }

    private static void maySell() {
        // town 0 gives coin 1, pays 3; town 1 gives coin 2, pays 0; town 3 gives coin 0, pays 3
        OtherCoins x = Checks.under(LAW);
        int person = Checks.someone(x, 0, 0, 0, 4, 0, 0);
        x.act(person, 11);
        dueMays("at home it is not sold", x, person, 1, 3);
        x.act(person, 3);
        dueMays("sold in 3", x, person, 0, 2, 20);
        x.purse(person, 0, 1);
        dueMays("up to 4", x, person, 0, 2, 20);
        x.purse(person, 0, 2);
        dueMays("above 4", x, person, 0, 2);
        x.purse(person, 0, 4);
        x.act(person, 0);
        x.act(person, 1);
        x.purse(person, 2, 4);
        dueMays("for nothing, with 4", x, person, 0, 2, 10, 12, 20);
        int smuggler = Checks.someone(x, 4, 0, 0, 4, 0, 0);
        x.act(smuggler, 11);
        x.act(smuggler, 3);
        dueMays("5 is above 4 for ever", x, smuggler, 0, 2);
        x.act(smuggler, 0);
        x.act(smuggler, 1);
        x.purse(smuggler, 2, 2);
        x.purse(smuggler, 1, 0);
        dueMays("a smuggler gets 2 for 0", x, smuggler, 0, 2, 12, 20);
        x.purse(smuggler, 2, 3);
        dueMays("not with 3", x, smuggler, 0, 2, 12);
    }

    private static void mayRefused() {
        OtherCoins x = Checks.under(LAW);
        x.person(0, 0);
        for (int act : NO_ACTS) {
            due("12: no act " + act, -101, x.may(0, act));
            due("13: no act " + act, -101, x.act(0, act));
        }
        for (int person : NO_NUMBERS) {
            due("12: nobody", -101, x.may(person, 1));
            due("13: nobody", -101, x.act(person, 1));
        }
        due("12: not yet there", -101, x.may(1, 1));
        due("13: nothing was done", 0, x.count(3));
    }

    private static void act() {
        OtherCoins x = Checks.under(LAW);
        int person = Checks.someone(x, 3, 0, 0, 4, 0, 1);
        due("13: buys", 3, x.act(person, 11));
        due("13: its own coins", 2, x.about(person, 11));
        due("13: has it", 1, x.about(person, 2));
        due("13: not twice", -103, x.act(person, 11));
        due("13: not so far", -103, x.act(person, 2));
        due("13: not where it is", -103, x.act(person, 0));
        due("13: goes", 3, x.act(person, 3));
        due("13: is there", 3, x.about(person, 1));
        due("13: has not this one", -103, x.act(person, 21));
        due("13: cannot pay 4", -103, x.act(person, 11));
        due("13: sells for 3 and 1", 7, x.act(person, 20));
        due("13: of what it gives", 4, x.about(person, 10));
        due("13: has none then", 0, x.about(person, 2));
        due("13: not twice", -103, x.act(person, 20));
        due("13: buys for 4", 3, x.act(person, 10));
        due("13: none left", 0, x.about(person, 10));
        due("13: the good of 3", 8, x.about(person, 2));
        due("13: not sold at home", -103, x.act(person, 23));
        due("13: four were done", 4, x.count(3));
        int thief = Checks.someone(x, 2, 1, 0, 1, 0, 0);
        due("13: a thief pays with the town's own", 0, x.act(thief, 11));
        due("13: five were done", 5, x.count(3));
        due("13: goods of all", 2, x.count(2));
    }

    private static void change() {
        OtherCoins x = Checks.under(LAW);
        int a = Checks.someone(x, 0, 2, 1, 0, 0, 3);
        int b = Checks.someone(x, 1, 2, 3, 2, 0, 4);
        due("14: one for one", 0, x.change(a, 0, b, 1));
        due("14: a has the other", 1, x.about(a, 11));
        due("14: b has one more", 4, x.about(b, 10));
        due("14: b has one less", 1, x.about(b, 11));
        due("14: a keeps the rest", 3, x.about(a, 13));
        due("14: b has 4 already", -103, x.change(a, 3, b, 1));
        due("14: a gets a fourth", 0, x.change(a, 1, b, 3));
        due("14: four of it", 4, x.about(a, 13));
        due("14: 3 of b's", 3, x.about(b, 13));
        due("14: a has 4 already", -103, x.change(b, 3, a, 2));
        due("14: alike, 4 is no hindrance", 4, x.change(a, 3, b, 3));
        due("14: alike the other way", 3, x.change(b, 3, a, 3));
        due("14: nothing changes", 4, x.about(a, 13));
        due("14: nothing changes with b", 3, x.about(b, 13));
        due("14: alike, a has none", -103, x.change(a, 0, b, 0));
        due("14: alike, b has none", -103, x.change(b, 0, a, 0));
        due("14: no act was done", 0, x.count(3));
        due("14: coins stay", 13, x.count(0));
    }

    private static void changeRefused() {
        OtherCoins x = Checks.under(LAW);
        int a = Checks.someone(x, 0, 2, 1, 1, 1, 1);
        int b = Checks.someone(x, 1, 2, 1, 1, 1, 0);
        int far = Checks.someone(x, 1, 1, 1, 1, 1, 1);
        due("14: another town", -103, x.change(a, 0, far, 1));
        due("14: another town, alike", -103, x.change(a, 0, far, 0));
        due("14: b has none", -103, x.change(a, 0, b, 3));
        due("14: a has none", -103, x.change(b, 3, a, 0));
        due("14: the same", -101, x.change(a, 0, a, 1));
        due("14: no coin 4", -101, x.change(a, 4, b, 1));
        due("14: no coin -1", -101, x.change(a, 0, b, -1));
        for (int nobody : NO_NUMBERS) {
            due("14: a is nobody", -101, x.change(nobody, 0, b, 0));
            due("14: b is nobody", -101, x.change(a, 0, nobody, 0));
        }
        due("14: UNKNOWN first", -101, x.change(a, 0, far, 4));
        due("14: not yet there", -101, x.change(a, 0, 3, 0));
        x.purse(b, 1, 4);
        due("14: b would have 5", -103, x.change(a, 1, b, 0));
        x.purse(b, 1, 1);
        x.purse(a, 2, 4);
        due("14: a would have 5", -103, x.change(a, 1, b, 2));
        due("14: nothing came of these", 7 + 3 + 4, x.count(0));
    }
}
