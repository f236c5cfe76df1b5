/** Promises 1 to 7: a new object and the law. */
final class LawTest {
    private static final String LAW = "12:123/023:210/1:340/012:043";
    private static final Checks CHECKS = new Checks("LawTest");

    public static void main(String[] args) {
        aNewObject();
        letters();
        blank();
        fault();
        law();
        lawTakesAllWithIt();
        town();
        price();
        CHECKS.end();
    }

    private static void due(String what, long want, long got) {
        CHECKS.due(what, want, got);
    }

    private static void aNewObject() {
        OtherCoins x = new OtherCoins();
        for (int what = 0; what <= 7; what++) {
            due("1: new count(" + what + ")", 0, x.count(what));
        }
        long h = 677;
        for (int i = 0; i < 8; i++) {
            h *= 31;
        }
        due("1: new digest", h, x.digest());
        due("1: new town", -103, x.town(0, 0));
        due("1: new person", -103, x.person(0, 0));
        due("1: nobody", -101, x.about(0, 0));
        due("1: no trail", -103, x.ways());
        due("1: no image", -103, x.restore());
    }

    private static void letters() {
        OtherCoins x = new OtherCoins();
        due("2: none", 0, x.letters(0));
        due("2: one", 1, x.letters('a'));
        due("2: eight more", 9, x.letters(Checks.packed("bcdefghi")));
        due("2: 126 and 1", 11, x.letters(126 | 1 << 8));
        due("2: 127", -102, x.letters(127));
        due("2: 128", -102, x.letters(128));
        due("2: 255 on top", -102, x.letters(0xffL << 56));
        due("2: all bits", -102, x.letters(-1));
        due("2: 127 behind letters", -102, x.letters('a' | 127 << 8));
        due("2: behind a 0", -102, x.letters('a' | 'b' << 16));
        due("2: on top behind 0", -102, x.letters(1L << 56));
        due("2: nothing came of these", 11, x.count(5));
        due("2: 19", 19, x.letters(Checks.packed("........")));
        due("2: 27", 27, x.letters(Checks.packed("........")));
        due("2: 33", -104, x.letters(Checks.packed("......")));
        due("2: still 27", 27, x.count(5));
        due("2: 32", 32, x.letters(Checks.packed(".....")));
        due("2: none to a full page", 32, x.letters(0));
        due("2: one to a full page", -104, x.letters('a'));
        due("2: OUTSIDE ahead of FULL", -102, x.letters(127));
        due("2: all told", pageDigest("abcdefghi~\u0001....................."), x.digest());
    }

    private static long pageDigest(String letters) {
        long h = 677;
        for (int i = 0; i < letters.length(); i++) {
            h = 31 * h + letters.charAt(i);
        }
        long[] counts = {0, 0, 0, 0, 0, letters.length(), 0, 0};
        for (long count : counts) {
            h = 31 * h + count;
        }
        return h;
    }

    private static void blank() {
        OtherCoins x = new OtherCoins();
        due("3: an empty one", 0, x.blank());
        Checks.write(x, "12:1");
        due("3: four", 4, x.blank());
        due("3: none then", 0, x.count(5));
        Checks.write(x, LAW);
        due("3: 28", 28, x.blank());
        Checks.write(x, "3:1");
        due("3: the old ones are gone", 3, x.fault());
    }

    private static int faultOf(String text) {
        OtherCoins x = new OtherCoins();
        Checks.write(x, text);
        int place = x.fault();
        due("4: the page stays", text.length(), x.count(5));
        return place;
    }

    private static void fault() {
        due("4: empty", 0, faultOf(""));
        for (int length = 1; length <= LAW.length(); length++) {
            due("4: a law begun, " + length, length, faultOf(LAW.substring(0, length)));
        }
        String[] wrong = {"0", ":", "4", "x", "/", "11", "124", "121", "1230", "1/", "1 ", "1:0", "1:4", "1::", "1:1:",
            "1:10", "1:15", "1:115", "1:11:", "1:11/", "1:1110", "1:111:", "1:111/1", "1:111/:", "1:111//",
            "1:111/0:1", "1:111/0:0110", "1:111/0:011/2", "1:111/0:011/0:2", "1:111/0:011/0:011/3",
            "1:111/0:011/0:011/0:3", "1:111/0:011/0:011/0:011/", "1:111/0:011/0:011/0:0110", "1:111/0:011/0:011/0:011:",
            LAW + "0", LAW + "/", "3:3/", "\u0001", "1:1~"};
        for (String text : wrong) {
            due("4: " + text, text.length() - 1, faultOf(text));
            due("4: " + text + " with more", text.length() - 1, faultOf(text + "1"));
        }
        due("4: the longest", 31, faultOf("123:114/230:244/301:340/012:040"));
        due("4: behind the longest", 31, faultOf("123:114/230:244/301:340/012:040/"));
        due("4: a part that takes three", 3, faultOf("321"));
        due("4: no fourth one", 3, faultOf("3213"));
    }

    private static void law() {
        OtherCoins x = new OtherCoins();
        due("5: an empty page", -103, x.law());
        Checks.write(x, LAW.substring(0, 27));
        due("5: not whole", -103, x.law());
        due("5: the page stays", 27, x.count(5));
        due("5: none read", 0, x.count(6));
        Checks.write(x, "3");
        due("5: whole", 9, x.law());
        due("5: the page is empty", 0, x.count(5));
        due("5: read once", 1, x.count(6));
        due("5: the empty page is none", -103, x.law());
        Checks.write(x, LAW + "/");
        due("5: too long", -103, x.law());
        due("5: still there", 29, x.blank());
        Checks.write(x, "1:111/0:011/0:0");
        due("5: half a law leaves the old one", -103, x.law());
        due("5: the old one takes", 6, x.town(0, 0));
        due("5: the old one's price", 2, x.town(0, 2));
        x.blank();
        Checks.write(x, "123:114/230:244/301:340/012:040");
        due("5: all take three", 12, x.law());
        Checks.write(x, "1:114/2:244/3:340/0:040");
        due("5: all take one", 4, x.law());
        due("5: read three times", 3, x.count(6));
    }

    private static void lawTakesAllWithIt() {
        OtherCoins x = Checks.under(LAW);
        int person = Checks.someone(x, 4, 0, 1, 2, 3, 4);
        x.act(person, 12);
        x.fewest(person, 1, 0);
        x.trail(person);
        x.next(3);
        x.image();
        x.price(0, 4);
        Checks.write(x, LAW + "x");
        due("5: none", -103, x.law());
        due("5: people stay", 1, x.count(1));
        due("5: the trail stays", 1, x.count(4));
        due("5: acts stay", 1, x.count(3));
        x.blank();
        Checks.write(x, LAW);
        due("5: the same text", 9, x.law());
        due("5: nobody", 0, x.count(1));
        due("5: no coins", 0, x.count(0));
        due("5: no goods", 0, x.count(2));
        due("5: no acts", 0, x.count(3));
        due("5: no purses", 0, x.count(4));
        due("5: twice", 2, x.count(6));
        due("5: searches count on", 1, x.count(7));
        due("5: no trail", -103, x.next(0));
        due("5: no image", -103, x.restore());
        due("5: prices of the text", 2, x.town(0, 2));
        due("5: unknown", -101, x.about(0, 0));
        due("5: a new one", 0, x.person(0, 0));
        due("5: without coins", 0, x.about(0, 3));
        due("5: without goods", 0, x.about(0, 2));
        due("5: the trail is gone", 0, x.trail(0));
    }

    private static void town() {
        OtherCoins x = Checks.under(LAW);
        int[][] due = {{6, 1, 2, 3, 0}, {13, 2, 1, 0, 0}, {2, 3, 4, 0, 0}, {7, 0, 4, 3, 0}};
        for (int town = 0; town < 4; town++) {
            for (int what = 0; what < 5; what++) {
                due("6: town(" + town + ", " + what + ")", due[town][what], x.town(town, what));
            }
        }
        x.person(0, 2);
        x.person(1, 2);
        x.person(2, 3);
        due("6: two", 2, x.town(2, 4));
        due("6: one", 1, x.town(3, 4));
        x.act(0, 3);
        due("6: one goes", 1, x.town(2, 4));
        due("6: one comes", 2, x.town(3, 4));
        int[] wrong = {-1, 4, Integer.MIN_VALUE, Integer.MAX_VALUE};
        for (int town : wrong) {
            due("6: no town", -101, x.town(town, 0));
            due("6: UNKNOWN first", -101, x.town(town, 9));
        }
        int[] wrongWhat = {-1, 5, Integer.MIN_VALUE, Integer.MAX_VALUE};
        for (int what : wrongWhat) {
            due("6: outside", -102, x.town(3, what));
        }
        OtherCoins none = new OtherCoins();
        due("6: no law", -103, none.town(3, 4));
        due("6: no law, UNKNOWN first", -101, none.town(4, 4));
        due("6: no law, OUTSIDE first", -102, none.town(3, 5));
    }

    private static void price() {
        OtherCoins x = Checks.under(LAW);
        due("7: was 2", 2, x.price(0, 4));
        due("7: was 4", 4, x.price(0, 1));
        due("7: is 1", 1, x.town(0, 2));
        due("7: the others stay", 1, x.town(1, 2));
        due("7: pay stays", 3, x.town(0, 3));
        due("7: the same", 4, x.price(2, 4));
        due("7: 0", -102, x.price(0, 0));
        due("7: 5", -102, x.price(0, 5));
        due("7: lowest", -102, x.price(0, Integer.MIN_VALUE));
        due("7: highest", -102, x.price(0, Integer.MAX_VALUE));
        due("7: no town", -101, x.price(4, 1));
        due("7: no town", -101, x.price(-1, 1));
        due("7: UNKNOWN first", -101, x.price(-1, 9));
        due("7: still 1", 1, x.town(0, 2));
        Checks.write(x, "1");
        x.fault();
        due("7: a page does not touch it", 1, x.town(0, 2));
        OtherCoins none = new OtherCoins();
        due("7: no law", -103, none.price(0, 1));
        due("7: no law, OUTSIDE first", -102, none.price(0, 0));
        due("7: no law, UNKNOWN first", -101, none.price(4, 1));
    }
}
