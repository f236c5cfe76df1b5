import java.math.BigInteger;
import java.util.function.IntSupplier;

/** The edges that the document names of what is told of all (promises 24 to 27), and of refusals and 512 calls. */
final class EdgesOfAllTest {
    private static final String LAW = "12:123/023:210/1:340/012:043";
    private static final String LONGEST = "123:114/230:244/301:340/012:040";
    private static final Checks CHECKS = new Checks("EdgesOfAllTest");

    private final OtherCoins full = Checks.under(LAW);
    private long digest;

    public static void main(String[] args) {
        imageWithoutALaw();
        imageOfNobodyAndOfAll();
        noneWasKept();
        aLawWasReadSince();
        oneTheLatest();
        goesOnAgainAndAgain();
        thoseThatComeSinceAreGone();
        townsPursesGoods();
        pricesAndActsDone();
        noTrailHasBegun();
        whatAnImageDoesNotKeep();
        countOfNothing();
        countOfTheMost();
        countOutside();
        digestOfNothing();
        digestOfEachNumber();
        digestWraps();
        digestOfAFullPage();
        new EdgesOfAllTest().refusalsChangeNothing();
        refusalsWithoutALaw();
        the512thCall();
        CHECKS.end();
    }

    private static void due(String what, long want, long got) {
        CHECKS.due(what, want, got);
    }

    /** "STATE: no LAW." */
    private static void imageWithoutALaw() {
        OtherCoins x = new OtherCoins();
        due("24: no law", -103, x.image());
        Checks.write(x, LAW);
        due("24: a page is no law yet", -103, x.image());
        due("25: none was kept by that", -103, x.restore());
        x.law();
        due("25: nor is it behind the law", -103, x.restore());
        due("24: with a law", 0, x.image());
    }

    /** "how many PEOPLE" */
    private static void imageOfNobodyAndOfAll() {
        OtherCoins x = Checks.under(LAW);
        for (int n = 0; n <= 5; n++) {
            due("24: of " + n, n, x.image());
            due("25: of " + n, n, x.restore());
            due("26: of " + n, n, x.count(1));
            x.person(0, 0);
        }
        due("24: five at most", 5, x.image());
    }

    /** "STATE: none was kept" */
    private static void noneWasKept() {
        OtherCoins x = new OtherCoins();
        due("25: a new object", -103, x.restore());
        Checks.write(x, LAW);
        x.law();
        x.person(0, 3);
        x.trail(0);
        x.next(0);
        due("25: with a law", -103, x.restore());
        due("25: the person stays", 3, x.about(0, 1));
        due("25: the trail stays", 2, x.ways());
    }

    /** "or a LAW was read since (of the same text, too)" */
    private static void aLawWasReadSince() {
        for (String since : new String[] {LAW, LONGEST}) {
            OtherCoins x = Checks.under(LAW);
            x.person(0, 3);
            due("24: kept", 1, x.image());
            Checks.write(x, since);
            due("25: a page is not read", 1, x.restore());
            due("25: a page stays", since.length(), x.count(5));
            x.law();
            due("25: a law was read", -103, x.restore());
            due("25: again", -103, x.restore());
            due("25: nobody comes back", 0, x.count(1));
            due("24: another one", 0, x.image());
            due("25: from the other one", 0, x.restore());
        }
        OtherCoins x = Checks.under(LAW);
        x.image();
        Checks.write(x, LAW + "/");
        due("5: this is none", -103, x.law());
        due("25: none was read", 0, x.restore());
        x.blank();
        due("5: an empty page is none", -103, x.law());
        due("25: none was read by that", 0, x.restore());
    }

    /** "(one; the latest)" */
    private static void oneTheLatest() {
        OtherCoins x = Checks.under(LAW);
        x.person(0, 0);
        x.image();
        x.act(0, 1);
        x.purse(0, 0, 4);
        x.image();
        x.act(0, 2);
        x.purse(0, 0, 1);
        x.restore();
        due("25: the latest town", 1, x.about(0, 1));
        due("25: the latest coins", 4, x.about(0, 10));
        due("25: the latest acts", 1, x.count(3));
    }

    /** "It goes on from the IMAGE", as often as one likes; an IMAGE is not what is done since. */
    private static void goesOnAgainAndAgain() {
        OtherCoins x = Checks.under(LAW);
        Checks.someone(x, 0, 1, 4, 4, 4, 4);
        x.image();
        long kept = x.digest();
        for (int i = 0; i < 4; i++) {
            x.act(0, 10);
            x.act(0, 0);
            x.act(0, 21);
            x.purse(0, i, 0);
            x.price(i, 1 + i);
            x.person(i, i);
            due("25: time " + i, 1, x.restore());
            due("25: as it was, time " + i, kept, x.digest());
        }
        due("25: at once again", 1, x.restore());
        due("25: as it was, at once", kept, x.digest());
    }

    /** "how many PEOPLE there are (those that come since are gone by restore())" */
    private static void thoseThatComeSinceAreGone() {
        for (int n = 0; n <= 5; n++) {
            OtherCoins x = Checks.under(LAW);
            for (int i = 0; i < n; i++) {
                Checks.someone(x, 4 - i, 1, 1, 0, 0, 0);
            }
            x.image();
            for (int i = n; i < 5; i++) {
                Checks.someone(x, 2, 1, 4, 4, 4, 4);
                x.act(i, 10);
            }
            due("8: five are there", -104, x.person(0, 0));
            due("25: so many were", n, x.restore());
            due("25: the next one is gone", -101, x.about(n, 0));
            due("25: the last one is gone", n == 5 ? 4 : -101, x.as(4, 0));
            due("26: their coins are gone", n, x.count(0));
            due("26: their goods are gone", 0, x.count(2));
            due("6: they are in no town", n, x.town(1, 4));
            for (int i = n; i < 5; i++) {
                due("8: others may come", i, x.person(1, 2));
                due("8: of their own kind", 1, x.about(i, 0));
                due("8: with nothing", 0, x.about(i, 3) + x.about(i, 2));
            }
            due("8: as many as five", -104, x.person(1, 2));
        }
    }

    /** "TOWNS, PURSES, GOODS of them", of each of five, the change among them, too. */
    private static void townsPursesGoods() {
        OtherCoins x = Checks.under(LAW);
        for (int i = 0; i < 5; i++) {
            Checks.someone(x, i, 1, 4, 1, 1, i);
        }
        x.act(3, 10);
        x.image();
        x.change(0, 0, 1, 1);
        for (int i = 0; i < 5; i++) {
            x.act(i, i == 3 ? 0 : 10);
            x.act(i, i == 3 ? 21 : 2);
            x.purse(i, 3, 4 - i);
        }
        x.restore();
        for (int i = 0; i < 5; i++) {
            due("25: town of " + i, 1, x.about(i, 1));
            due("25: kind of " + i, i, x.about(i, 0));
            due("25: goods of " + i, i == 3 ? 2 : 0, x.about(i, 2));
            due("25: coins 0 of " + i, i == 3 ? 3 : 4, x.about(i, 10));
            due("25: coins 1 of " + i, 1, x.about(i, 11));
            due("25: coins 2 of " + i, 1, x.about(i, 12));
            due("25: coins 3 of " + i, i, x.about(i, 13));
        }
    }

    /** "PRICES, ACTS done" */
    private static void pricesAndActsDone() {
        OtherCoins x = Checks.under(LAW);
        x.person(0, 0);
        for (int town = 0; town < 4; town++) {
            x.price(town, 4 - town);
            x.act(0, (town + 1) % 4);
        }
        x.image();
        for (int town = 0; town < 4; town++) {
            x.price(town, 1 + town);
            x.act(0, (town + 1) % 4);
        }
        due("26: eight acts", 8, x.count(3));
        x.restore();
        due("26: four acts", 4, x.count(3));
        for (int town = 0; town < 4; town++) {
            due("25: price of " + town, 4 - town, x.town(town, 2));
        }
        x.act(0, 1);
        due("26: it counts on from there", 5, x.count(3));
    }

    /** "(no TRAIL has begun)" */
    private static void noTrailHasBegun() {
        OtherCoins x = Checks.under(LAW);
        x.person(0, 0);
        x.trail(0);
        x.next(0);
        x.image();
        due("24: it goes on behind image()", 2, x.ways());
        due("25: one", 1, x.restore());
        due("25: next", -103, x.next(0));
        due("25: ways", -103, x.ways());
        due("25: ends", -103, x.ends());
        due("25: purses", 0, x.count(4));
        due("25: that had none", 0, x.trail(0));
    }

    /** What the image does not name stays: THE PAGE, laws read, searches done. */
    private static void whatAnImageDoesNotKeep() {
        OtherCoins x = Checks.under(LAW);
        x.person(0, 0);
        Checks.write(x, "12:");
        x.image();
        Checks.write(x, "123/");
        x.fewest(0, 0, 0);
        x.restore();
        due("25: the page stays", 7, x.count(5));
        due("25: with its letters", 7, x.fault());
        due("25: searches stay", 1, x.count(7));
        due("25: laws stay", 1, x.count(6));
    }

    /** "How many", of nothing. */
    private static void countOfNothing() {
        OtherCoins x = new OtherCoins();
        for (int what = 0; what <= 7; what++) {
            due("26: new, " + what, 0, x.count(what));
        }
        OtherCoins law = Checks.under(LAW);
        for (int what = 0; what <= 7; what++) {
            due("26: with a law, " + what, what == 6 ? 1 : 0, law.count(what));
        }
    }

    /** "How many", of as many as there can be. */
    private static void countOfTheMost() {
        OtherCoins x = Checks.under("123:114/230:214/301:314/012:014");
        for (int i = 0; i < 5; i++) {
            Checks.someone(x, 2, 0, 4, 4, 4, 4);
            for (int town = 0; town < 4; town++) {
                x.act(i, town);
                x.act(i, 10);
                x.purse(i, 0, 4);
            }
        }
        due("26: coins", 80, x.count(0));
        due("26: people", 5, x.count(1));
        due("26: goods", 20, x.count(2));
        due("26: acts, but not those refused", 5 * 7, x.count(3));
        x.trail(4);
        for (int i = 0; i < 6; i++) {
            x.next(624);
        }
        due("26: purses", 5, x.count(4));
        Checks.write(x, LONGEST + "/");
        x.letters('1');
        due("26: letters", 32, x.count(5));
        for (int i = 0; i < 50; i++) {
            x.richest(i % 5, 0);
        }
        due("26: searches", 40, x.count(7));
        x.blank();
        for (int i = 2; i < 6; i++) {
            Checks.write(x, LAW);
            x.law();
            due("26: laws", i, x.count(6));
            due("26: an empty page is not read", -103, x.law());
            due("26: laws still", i, x.count(6));
        }
    }

    /** "OUTSIDE." */
    private static void countOutside() {
        OtherCoins x = new OtherCoins();
        OtherCoins law = Checks.under(LAW);
        for (int what : new int[] {-1, 8, 9, 10, Integer.MIN_VALUE, Integer.MAX_VALUE}) {
            due("26: what " + what, -102, x.count(what));
            due("26: what " + what, -102, law.count(what));
        }
    }

    private static long digestOf(long... numbers) {
        BigInteger h = BigInteger.valueOf(677);
        for (long number : numbers) {
            h = h.multiply(BigInteger.valueOf(31)).add(BigInteger.valueOf(number));
        }
        return h.longValue();
    }

    /** "h is 677", without a law, people, a trail or letters. */
    private static void digestOfNothing() {
        OtherCoins x = new OtherCoins();
        due("27: of a new object", digestOf(0, 0, 0, 0, 0, 0, 0, 0), x.digest());
        Checks.write(x, "1~");
        due("27: with letters", digestOf('1', '~', 0, 0, 0, 0, 0, 2, 0, 0), x.digest());
        x.blank();
        due("27: without them", digestOf(0, 0, 0, 0, 0, 0, 0, 0), x.digest());
    }

    /** Each number that is told, in order. */
    private static void digestOfEachNumber() {
        OtherCoins x = Checks.under(LAW);
        due("27: a law", digestOf(6, 1, 2, 3, 0, 13, 2, 1, 0, 0, 2, 3, 4, 0, 0, 7, 0, 4, 3, 0,
                0, 0, 0, 0, 0, 0, 1, 0), x.digest());
        Checks.someone(x, 1, 0, 4, 1, 0, 0);
        x.act(0, 11);
        x.richest(0, 8);
        due("27: a person", digestOf(6, 1, 2, 3, 1, 13, 2, 1, 0, 0, 2, 3, 4, 0, 0, 7, 0, 4, 3, 0,
                1, 0, 1, 4, 1, 3, 4, 0, 0, 0, 0, 2,
                4, 1, 1, 1, 0, 0, 1, 1), x.digest());
        x.trail(0);
        x.next(4);
        Checks.write(x, ":");
        due("27: a trail and a letter", digestOf(6, 1, 2, 3, 1, 13, 2, 1, 0, 0, 2, 3, 4, 0, 0, 7, 0, 4, 3, 0,
                1, 0, 1, 4, 1, 3, 4, 0, 0, 0, 0, 2, 2, 2 | 8, ':',
                4, 1, 1, 1, 1, 1, 1, 1), x.digest());
        OtherCoins dead = Checks.under("1:110/0:010/0:010/0:010");
        Checks.someone(dead, 0, 3, 1, 0, 2, 4);
        due("27: dead coins", digestOf(2, 1, 1, 0, 0, 1, 0, 1, 0, 0, 1, 0, 1, 0, 0, 1, 0, 1, 0, 1,
                0, 3, 0, 7, 1, 0, 1, 0, 2, 4, 6, 3,
                7, 1, 0, 0, 0, 0, 1, 0), dead.digest());
    }

    /** "(as longs, wrapping)": the whole number is far above a long. */
    private static void digestWraps() {
        OtherCoins x = Checks.under(LAW);
        long h = digestOf(6, 1, 2, 3, 5, 13, 2, 1, 0, 0, 2, 3, 4, 0, 0, 7, 0, 4, 3, 0);
        for (int i = 0; i < 5; i++) {
            Checks.someone(x, 0, 0, 0, 0, 0, 0);
            for (int number : new int[] {0, 0, 0, 0, 2, 3, 0, 0, 0, 0, 0, 2}) {
                h = BigInteger.valueOf(h).multiply(BigInteger.valueOf(31)).add(BigInteger.valueOf(number)).longValue();
            }
        }
        for (int number : new int[] {0, 5, 0, 0, 0, 0, 1, 0}) {
            h = BigInteger.valueOf(h).multiply(BigInteger.valueOf(31)).add(BigInteger.valueOf(number)).longValue();
        }
        due("27: of five", h, x.digest());
        due("27: it is asked again", h, x.digest());
    }

    /** "letters of THE PAGE, each by its code": none, and 32. */
    private static void digestOfAFullPage() {
        OtherCoins x = new OtherCoins();
        long[] numbers = new long[40];
        for (int i = 0; i < 32; i++) {
            numbers[i] = i < 16 ? 126 - i : i - 15;
            x.letters(numbers[i]);
        }
        numbers[37] = 32;
        due("27: a full page", digestOf(numbers), x.digest());
        x.letters('x');
        due("27: a refused letter is not in it", digestOf(numbers), x.digest());
    }

    private void dueRefused(String call, int want, IntSupplier answer) {
        due(call, want, answer.getAsInt());
        due("nothing is changed by " + call, digest, full.digest());
    }

    /** "they change nothing": each refusal there is, with all that can be full. */
    private void refusalsChangeNothing() {
        for (int i = 0; i < 5; i++) {
            Checks.someone(full, i, i == 4 ? 3 : 0, 4, 3, 2, 0);
        }
        full.act(0, 11);
        full.image();
        full.act(0, 1);
        full.price(2, 3);
        full.trail(0);
        for (int i = 0; i < 5; i++) {
            full.next(4 + 5 + 50);
        }
        for (int i = 0; i < 40; i++) {
            full.fewest(1, 0, 0);
        }
        Checks.write(full, LONGEST + "x");
        digest = full.digest();
        refusedOfTheLaw();
        refusedOfPeople();
        refusedOfTheRest();
        // 32 rows of going alone, 48 with good 0 sold for nothing in 1 or 2
        due("21: the trail goes on", 32 + 48, full.ways());
        due("22: the trail goes on", 15, full.ends());
        due("25: the image is still kept", 5, full.restore());
        due("25: where it was", 0, full.about(0, 1));
        due("25: the price it was", 4, full.town(2, 2));
        due("25: the act it was", 1, full.count(3));
    }

    private void refusedOfTheLaw() {
        dueRefused("letters(127)", -102, () -> full.letters(127));
        dueRefused("letters behind a 0", -102, () -> full.letters('1' << 8));
        dueRefused("letters above 32", -104, () -> full.letters('1'));
        dueRefused("law()", -103, full::law);
        dueRefused("town(4, 0)", -101, () -> full.town(4, 0));
        dueRefused("town(0, 5)", -102, () -> full.town(0, 5));
        dueRefused("price(-1, 1)", -101, () -> full.price(-1, 1));
        dueRefused("price(0, 0)", -102, () -> full.price(0, 0));
        dueRefused("price(0, 5)", -102, () -> full.price(0, 5));
    }

    private void refusedOfPeople() {
        dueRefused("person(0, 4)", -101, () -> full.person(0, 4));
        dueRefused("person(5, 0)", -102, () -> full.person(5, 0));
        dueRefused("person(0, 0)", -104, () -> full.person(0, 0));
        dueRefused("about(5, 0)", -101, () -> full.about(5, 0));
        dueRefused("about(0, 6)", -102, () -> full.about(0, 6));
        dueRefused("as(5, 0)", -101, () -> full.as(5, 0));
        dueRefused("as(0, 5)", -102, () -> full.as(0, 5));
        dueRefused("as(0, 4)", -1, () -> full.as(0, 4));
        dueRefused("purse(5, 0, 1)", -101, () -> full.purse(5, 0, 1));
        dueRefused("purse(0, 4, 1)", -101, () -> full.purse(0, 4, 1));
        dueRefused("purse(0, 0, 5)", -102, () -> full.purse(0, 0, 5));
        dueRefused("purse(0, 0, -1)", -102, () -> full.purse(0, 0, -1));
        dueRefused("may(0, 4)", -101, () -> full.may(0, 4));
        dueRefused("act(5, 0)", -101, () -> full.act(5, 0));
        dueRefused("act(0, 14)", -101, () -> full.act(0, 14));
        dueRefused("act(0, 1)", -103, () -> full.act(0, 1));
        dueRefused("act(1, 10)", -103, () -> full.act(1, 10));
        dueRefused("act(0, 21)", -103, () -> full.act(0, 21));
        dueRefused("change with oneself", -101, () -> full.change(1, 0, 1, 1));
        dueRefused("change of no coin", -101, () -> full.change(1, 0, 2, 4));
        dueRefused("change in two towns", -103, () -> full.change(1, 0, 4, 1));
        dueRefused("change of what one has not", -103, () -> full.change(1, 3, 2, 0));
        dueRefused("change of what the other has not", -103, () -> full.change(1, 0, 2, 3));
        dueRefused("change to 5", -103, () -> full.change(1, 1, 2, 0));
        dueRefused("change to 5 of the other", -103, () -> full.change(1, 0, 2, 1));
    }

    private void refusedOfTheRest() {
        dueRefused("fewest(5, 0, 0)", -101, () -> full.fewest(5, 0, 0));
        dueRefused("fewest(0, 4, 0)", -101, () -> full.fewest(0, 4, 0));
        dueRefused("fewest(0, 0, 2)", -102, () -> full.fewest(0, 0, 2));
        dueRefused("fewest(0, 0, 0)", -103, () -> full.fewest(0, 0, 0));
        dueRefused("richest(5, 0)", -101, () -> full.richest(5, 0));
        dueRefused("richest(0, 9)", -102, () -> full.richest(0, 9));
        dueRefused("richest(0, 8)", -103, () -> full.richest(0, 8));
        dueRefused("dead(5)", -101, () -> full.dead(5));
        dueRefused("gains(4, 1)", -101, () -> full.gains(4, 1));
        dueRefused("gains(0, 0)", -102, () -> full.gains(0, 0));
        dueRefused("trail(5)", -101, () -> full.trail(5));
        dueRefused("next(625)", -102, () -> full.next(625));
        dueRefused("next(0)", -104, () -> full.next(0));
        dueRefused("walk(5, 1, 0, 0)", -101, () -> full.walk(5, 1, 0, 0));
        dueRefused("walk(0, 61, 0, 0)", -102, () -> full.walk(0, 61, 0, 0));
        dueRefused("walk(0, 1, -1, 0)", -102, () -> full.walk(0, 1, -1, 0));
        dueRefused("walk(0, 1, 0, 4)", -102, () -> full.walk(0, 1, 0, 4));
        dueRefused("count(8)", -102, () -> full.count(8));
    }

    /** The refusals of a new object, where nothing is there to be named. */
    private static void refusalsWithoutALaw() {
        OtherCoins x = new OtherCoins();
        long before = x.digest();
        due("5: law()", -103, x.law());
        due("6: town(0, 0)", -103, x.town(0, 0));
        due("7: price(0, 1)", -103, x.price(0, 1));
        due("8: person(0, 0)", -103, x.person(0, 0));
        due("11: purse(0, 0, 0)", -101, x.purse(0, 0, 0));
        due("14: change(0, 0, 1, 0)", -101, x.change(0, 0, 1, 0));
        due("15: fewest(0, 0, 0)", -101, x.fewest(0, 0, 0));
        due("16: richest(0, 0)", -101, x.richest(0, 0));
        due("18: gains(0, 1)", -103, x.gains(0, 1));
        due("19: trail(0)", -101, x.trail(0));
        due("20: next(0)", -103, x.next(0));
        due("21: ways()", -103, x.ways());
        due("22: ends()", -103, x.ends());
        due("24: image()", -103, x.image());
        due("25: restore()", -103, x.restore());
        due("nothing is changed by these", before, x.digest());
    }

    /** "at most 512 calls after it has been made": the last of them answers as the first. */
    private static void the512thCall() {
        int callsOfTheLaw = (LAW.length() + 7) / 8 + 1;
        OtherCoins x = Checks.under(LAW);
        x.person(0, 0);
        int acts = 512 - callsOfTheLaw - 2;
        for (int i = 1; i <= acts; i++) {
            due("13: act " + i, 0, x.act(0, i % 4));
        }
        due("26: call 512", acts, x.count(3));
    }
}
