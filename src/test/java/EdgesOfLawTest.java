import java.util.ArrayList;
import java.util.List;
import java.util.TreeSet;

/** The edges that the document names of the page and the law (promises 1 to 7), a test for each sentence. */
final class EdgesOfLawTest {
    private static final String LAW = "12:123/023:210/1:340/012:043";
    private static final String LONGEST = "123:114/230:244/301:340/012:040";
    private static final String SHORTEST = "1:114/0:244/0:340/0:040";
    private static final int[] NO_TOWNS = {-1, 4, Integer.MIN_VALUE, Integer.MAX_VALUE};
    private static final int[] NO_PRICES = {0, 5, -1, Integer.MIN_VALUE, Integer.MAX_VALUE};
    private static final Checks CHECKS = new Checks("EdgesOfLawTest");

    public static void main(String[] args) {
        noLawAndNobody();
        upToEightUntilAZero();
        aByteAbove126();
        aByteBehindAZero();
        above32();
        blankTellsWhatItHad();
        faultOfEveryBeginning();
        faultFarBehind();
        faultBehindThoseAhead();
        eachLetterNextToWhatItMayBe();
        coinsTakenAreCounted();
        noLawIsRead();
        anotherLawTakesAllAway();
        townAndWhat();
        peopleOfATown();
        priceOneToFour();
        withoutALaw();
        CHECKS.end();
    }

    private static void due(String what, long want, long got) {
        CHECKS.due(what, want, got);
    }

    /** "No LAW, nobody." */
    private static void noLawAndNobody() {
        OtherCoins x = new OtherCoins();
        due("1: no law", -103, x.town(0, 4));
        due("1: none read", 0, x.count(6));
        due("1: no people", 0, x.count(1));
        due("1: person 0", -101, x.about(0, 0));
        due("1: an empty page", 0, x.blank());
        due("1: which is no law", -103, x.law());
        due("1: nor a fault", 0, x.fault());
    }

    /** "up to eight, ... the lowest byte first, until a byte that is 0" */
    private static void upToEightUntilAZero() {
        for (int n = 0; n <= 8; n++) {
            OtherCoins x = new OtherCoins();
            String text = "12:123/0".substring(0, n);
            due("2: so many come: " + n, n, x.letters(Checks.packed(text)));
            due("2: in their order: " + n, n, x.fault());
            due("2: behind them: " + n, 2 * n, x.letters(Checks.packed(text)));
            due("2: as many are there: " + n, 2 * n, x.count(5));
        }
        OtherCoins x = new OtherCoins();
        due("2: the lowest byte comes first", 2, x.letters('1' | '2' << 8));
        x.letters('2');
        due("2: so the second 2 is wrong", 2, x.fault());
    }

    /** "OUTSIDE: a byte above 126" */
    private static void aByteAbove126() {
        for (int place = 0; place < 8; place++) {
            long ahead = Checks.packed("aaaaaaaa".substring(0, place));
            OtherCoins x = new OtherCoins();
            for (int code : new int[] {127, 128, 129, 254, 255}) {
                due("2: " + code + " at " + place, -102, x.letters(ahead | (long) code << (8 * place)));
            }
            due("2: nothing of these came", 0, x.count(5));
            due("2: 126 at " + place, place + 1, x.letters(ahead | 126L << (8 * place)));
            due("2: 1 at " + place, 2 * place + 2, x.letters(ahead | 1L << (8 * place)));
        }
    }

    /** "or one behind a 0 that is not 0" */
    private static void aByteBehindAZero() {
        for (int zero = 0; zero < 7; zero++) {
            long ahead = Checks.packed("1111111".substring(0, zero));
            OtherCoins x = new OtherCoins();
            for (int place = zero + 1; place < 8; place++) {
                for (int code : new int[] {1, '1', 126, 127, 255}) {
                    due("2: " + code + " at " + place + " behind " + zero, -102, x.letters(ahead | (long) code << (8 * place)));
                }
            }
            due("2: nothing of these came", 0, x.count(5));
            due("2: only zeros behind " + zero, zero, x.letters(ahead));
        }
    }

    /** "FULL: above 32" */
    private static void above32() {
        for (int last = 1; last <= 8; last++) {
            OtherCoins x = new OtherCoins();
            String text = "abcdefgh".substring(0, last);
            for (int i = 0; i < 32 - last; i++) {
                due("2: one more", i + 1, x.letters('.'));
            }
            if (last < 8) {
                due("2: 33", -104, x.letters(Checks.packed(text + "x")));
            }
            due("2: they stay", 32 - last, x.count(5));
            due("2: just 32, by " + last, 32, x.letters(Checks.packed(text)));
            due("2: one above", -104, x.letters('.'));
            due("2: eight above", -104, x.letters(Checks.packed("abcdefgh")));
            due("2: none at all to a full page", 32, x.letters(0));
            due("2: OUTSIDE is told first", -102, x.letters(127));
            due("2: OUTSIDE behind a 0 is told first", -102, x.letters('a' << 8));
            due("2: it stays full", 32, x.count(5));
            due("3: 32 on a full page", 32, x.blank());
            due("2: an emptied one takes letters", 8, x.letters(Checks.packed("abcdefgh")));
        }
    }

    /** "THE PAGE is empty: how many letters it had." */
    private static void blankTellsWhatItHad() {
        OtherCoins x = new OtherCoins();
        due("3: an empty one", 0, x.blank());
        due("3: an empty one again", 0, x.blank());
        x.letters('1');
        due("3: one", 1, x.blank());
        due("3: none behind it", 0, x.blank());
        Checks.write(x, LONGEST);
        due("3: 31", 31, x.blank());
        due("3: empty", 0, x.count(5));
        due("3: no fault in it", 0, x.fault());
        due("3: no law in it", -103, x.law());
    }

    private static List<String> takesOf(int town) {
        List<String> all = new ArrayList<>();
        all.add("");
        for (int from = 0; from < all.size(); from++) {
            for (int coin = 0; coin < 4; coin++) {
                if (coin != town && all.get(from).indexOf('0' + coin) < 0) {
                    all.add(all.get(from) + coin);
                }
            }
        }
        all.remove(0);
        return all;
    }

    /** All texts of a part, from the words of the document. */
    private static List<String> partsOf(int town) {
        List<String> all = new ArrayList<>();
        for (String takes : takesOf(town)) {
            for (int gives = 0; gives < 4; gives++) {
                for (int i = 0; i < 20 && gives != town; i++) {
                    all.add(takes + ":" + gives + (1 + i / 5) + i % 5);
                }
            }
        }
        return all;
    }

    private static TreeSet<String> beginningsOf(List<String> parts) {
        TreeSet<String> all = new TreeSet<>();
        for (String part : parts) {
            for (int length = 0; length <= part.length(); length++) {
                all.add(part.substring(0, length));
            }
        }
        return all;
    }

    /** Whether the letter behind each beginning of a part can be one of a law, for those near the edges. */
    private static void faultOfEveryBeginning() {
        String[] ahead = {"", "3:140/", "3:140/3:040/", "3:140/3:040/1:140/"};
        String signs = "/0123456789:;. A~\u0001";
        for (int town = 0; town < 4; town++) {
            List<String> parts = partsOf(town);
            due("4: so many parts", 900, parts.size());
            TreeSet<String> beginnings = beginningsOf(parts);
            OtherCoins x = new OtherCoins();
            for (String begun : beginnings) {
                for (int i = 0; i < signs.length(); i++) {
                    char sign = signs.charAt(i);
                    boolean whole = begun.length() >= 5 && begun.length() == begun.indexOf(':') + 4;
                    boolean may = beginnings.contains(begun + sign) || (whole && sign == '/' && town < 3);
                    String text = ahead[town] + begun + sign;
                    x = i == 0 ? new OtherCoins() : x;
                    x.blank();
                    Checks.write(x, text);
                    due("4: fault of " + text, may ? text.length() : text.length() - 1, x.fault());
                }
            }
        }
    }

    /** "how many letters it has, if there is none" */
    private static void faultFarBehind() {
        OtherCoins x = new OtherCoins();
        due("4: of none", 0, x.fault());
        Checks.write(x, LONGEST);
        due("4: of the longest law", 31, x.fault());
        x.letters('/');
        due("4: of a full page, the last", 31, x.fault());
        x.blank();
        Checks.write(x, SHORTEST);
        due("4: of the shortest law", 23, x.fault());
        x.letters('0');
        due("4: a digit behind it", 23, x.fault());
        x.blank();
        Checks.write(x, "................................");
        due("4: of a full page, the first", 0, x.fault());
        due("4: the page stays", 32, x.count(5));
    }

    /** "The place of the first letter ... that no LAW has there, behind those ahead of it" */
    private static void faultBehindThoseAhead() {
        for (int place = 0; place < LONGEST.length(); place++) {
            OtherCoins x = new OtherCoins();
            Checks.write(x, LONGEST.substring(0, place) + "x" + LONGEST.substring(place + 1));
            due("4: an x at " + place, place, x.fault());
            due("5: it is none, by an x at " + place, -103, x.law());
            due("4: as long as before", 31, x.blank());
        }
        OtherCoins x = new OtherCoins();
        Checks.write(x, "11:1111");
        due("4: two are wrong, the first is told", 1, x.fault());
    }

    private static int answerOf(String text) {
        OtherCoins x = new OtherCoins();
        Checks.write(x, text);
        return x.law();
    }

    /** "not its own", "0 to 3", "PRICE (1 to 4)", "PAY (0 to 4)", each as a whole law. */
    private static void eachLetterNextToWhatItMayBe() {
        String[] ahead = {"", "3:140/", "3:140/3:040/", "3:140/3:040/1:140/"};
        String[] behind = {"/0:010/0:010/0:010", "/0:010/0:010", "/0:010", ""};
        for (int town = 0; town < 4; town++) {
            int other = (town + 1) % 4;
            for (int i = 0; i < 6; i++) {
                boolean coin = i < 4 && i != town;
                due("5: town " + town + " takes " + i, coin ? 4 : -103,
                        answerOf(ahead[town] + i + ":" + other + "11" + behind[town]));
                due("5: town " + town + " gives " + i, coin ? 4 : -103,
                        answerOf(ahead[town] + other + ":" + i + "11" + behind[town]));
                due("5: town " + town + " asks " + i, i >= 1 && i <= 4 ? 4 : -103,
                        answerOf(ahead[town] + other + ":" + other + i + "1" + behind[town]));
                due("5: town " + town + " pays " + i, i <= 4 ? 4 : -103,
                        answerOf(ahead[town] + other + ":" + other + "1" + i + behind[town]));
            }
            due("5: town " + town + " takes none", -103, answerOf(ahead[town] + ":" + other + "11" + behind[town]));
            due("5: town " + town + " takes one twice", -103,
                    answerOf(ahead[town] + other + other + ":" + other + "11" + behind[town]));
            due("5: town " + town + " pays twice", -103, answerOf(ahead[town] + other + ":" + other + "111" + behind[town]));
        }
    }

    /** "how many COINS all TOWNS TAKE, each one's counted" */
    private static void coinsTakenAreCounted() {
        due("5: the least", 4, answerOf(SHORTEST));
        due("5: the most", 12, answerOf(LONGEST));
        for (int town = 0; town < 4; town++) {
            for (String takes : takesOf(town)) {
                StringBuilder text = new StringBuilder();
                for (int i = 0; i < 4; i++) {
                    text.append(i == 0 ? "" : "/").append(i == town ? takes : "" + (i + 1) % 4).append(":").append((i + 1) % 4).append("11");
                }
                OtherCoins x = Checks.under(SHORTEST);
                Checks.write(x, text.toString());
                due("5: " + text, 3 + takes.length(), x.law());
                int bits = 0;
                for (char coin : takes.toCharArray()) {
                    bits |= 1 << (coin - '0');
                }
                due("6: taken by " + text, bits, x.town(town, 0));
            }
        }
    }

    /** "STATE: it is none." */
    private static void noLawIsRead() {
        for (String law : new String[] {LAW, LONGEST, SHORTEST}) {
            for (int length = 0; length < law.length(); length++) {
                OtherCoins x = new OtherCoins();
                Checks.write(x, law.substring(0, length));
                due("5: only " + length + " of it", -103, x.law());
                due("5: the page stays", length, x.count(5));
                due("5: none was read", 0, x.count(6));
                due("5: there is none", -103, x.town(0, 0));
            }
            due("5: a fifth part begun", -103, answerOf(law + "/"));
            due("5: a letter too many", -103, answerOf(law + "1"));
            due("5: a letter ahead", -103, answerOf("/" + law));
        }
    }

    /** "another one is gone, with PEOPLE, the TRAIL, ACTS done"; "THE PAGE is empty then" */
    private static void anotherLawTakesAllAway() {
        OtherCoins x = Checks.under(LAW);
        due("5: the page is empty", 0, x.count(5));
        for (int i = 0; i < 5; i++) {
            Checks.someone(x, i, 0, 4, 4, 4, 4);
        }
        x.act(4, 10);
        x.trail(4);
        for (int i = 0; i < 5; i++) {
            x.next(0);
        }
        x.price(0, 4);
        Checks.write(x, SHORTEST);
        due("5: another", 4, x.law());
        due("5: people are gone", 0, x.count(1));
        due("5: nobody is in a town", 0, x.town(0, 4));
        due("5: the last is unknown", -101, x.about(4, 0));
        due("5: the first is unknown", -101, x.purse(0, 0, 0));
        due("5: coins are gone", 0, x.count(0));
        due("5: goods are gone", 0, x.count(2));
        due("5: acts are gone", 0, x.count(3));
        due("5: purses are gone", 0, x.count(4));
        due("5: no trail: next", -103, x.next(0));
        due("5: no trail: ways", -103, x.ways());
        due("5: no trail: ends", -103, x.ends());
        due("5: the price of the new one", 1, x.town(0, 2));
        for (int i = 0; i < 5; i++) {
            due("5: five may come again", i, x.person(4 - i, 3));
            due("5: with no coins", 0, x.about(i, 3));
            due("5: with no goods", 0, x.about(i, 2));
            due("5: of its own kind", 4 - i, x.about(i, 0));
        }
        due("5: the trail that was had no purses left", 0, x.trail(0));
    }

    /** "Of a TOWN: what = 0 ... 4"; "UNKNOWN; OUTSIDE; STATE: no LAW." */
    private static void townAndWhat() {
        OtherCoins x = Checks.under(LONGEST);
        int[][] due = {{14, 1, 1, 4}, {13, 2, 4, 4}, {11, 3, 4, 0}, {7, 0, 4, 0}};
        for (int town = 0; town < 4; town++) {
            for (int what = 0; what < 4; what++) {
                due("6: town(" + town + ", " + what + ")", due[town][what], x.town(town, what));
            }
            due("6: nobody in " + town, 0, x.town(town, 4));
            for (int what : new int[] {-1, 5, Integer.MIN_VALUE, Integer.MAX_VALUE}) {
                due("6: what " + what, -102, x.town(town, what));
            }
        }
        for (int town : NO_TOWNS) {
            for (int what : new int[] {-1, 0, 4, 5}) {
                due("6: town " + town, -101, x.town(town, what));
            }
        }
    }

    /** "4 how many PEOPLE are there": none up to all five, and those of an image. */
    private static void peopleOfATown() {
        OtherCoins x = Checks.under(LAW);
        for (int i = 0; i < 5; i++) {
            due("6: so many", i, x.town(3, 4));
            x.person(i, 3);
        }
        due("6: all", 5, x.town(3, 4));
        due("6: a refused one is not there", -104, x.person(0, 3));
        due("6: still all", 5, x.town(3, 4));
        x.act(0, 0);
        due("6: one over the end of the ring", 1, x.town(0, 4));
        due("6: four stay", 4, x.town(3, 4));
        OtherCoins gone = Checks.under(LAW);
        gone.image();
        gone.person(0, 0);
        gone.restore();
        due("6: who is gone is not there", 0, gone.town(0, 4));
    }

    /** "PRICE of a TOWN becomes v: what it was"; "OUTSIDE: v (1 to 4)" */
    private static void priceOneToFour() {
        OtherCoins x = Checks.under(LAW);
        int[] was = {2, 1, 4, 4};
        for (int town = 0; town < 4; town++) {
            for (int v : NO_PRICES) {
                due("7: v " + v, -102, x.price(town, v));
            }
            due("7: what it was in " + town, was[town], x.price(town, 1));
            for (int v = 1; v <= 4; v++) {
                due("7: to " + v, Math.max(1, v - 1), x.price(town, v));
                due("6: it is " + v, v, x.town(town, 2));
            }
        }
        for (int town : NO_TOWNS) {
            due("7: town " + town, -101, x.price(town, 1));
            due("7: UNKNOWN first, " + town, -101, x.price(town, 0));
            due("7: UNKNOWN first, " + town, -101, x.price(town, 5));
        }
    }

    /** "STATE: no LAW", behind the other refusals. */
    private static void withoutALaw() {
        OtherCoins x = new OtherCoins();
        Checks.write(x, LAW);
        for (int town = 0; town < 4; town++) {
            due("6: a page is no law yet", -103, x.town(town, town));
            due("7: a page is no law yet", -103, x.price(town, 1 + town));
            due("6: OUTSIDE first", -102, x.town(town, 5));
            due("7: OUTSIDE first", -102, x.price(town, 0));
            due("7: OUTSIDE first", -102, x.price(town, 5));
        }
        for (int town : NO_TOWNS) {
            due("6: UNKNOWN first", -101, x.town(town, 0));
            due("7: UNKNOWN first", -101, x.price(town, 1));
        }
    }
}
