/** Promises 24 to 27: what is told of all. */
final class AllTest {
    private static final String LAW = "12:123/023:210/1:340/012:043";
    private static final int[] ACTS = {0, 1, 2, 3, 10, 11, 12, 13, 20, 21, 22, 23};
    private static final Checks CHECKS = new Checks("AllTest");

    public static void main(String[] args) {
        imageAndRestore();
        theLatestImage();
        restoreWithoutImage();
        count();
        countRefused();
        digest();
        CHECKS.end();
    }

    private static void due(String what, long want, long got) {
        CHECKS.due(what, want, got);
    }

    private static void imageAndRestore() {
        OtherCoins x = Checks.under(LAW);
        due("24: of nobody", 0, x.image());
        Checks.someone(x, 3, 0, 1, 4, 2, 0);
        Checks.someone(x, 4, 0, 0, 2, 0, 0);
        x.act(0, 11);
        x.price(3, 1);
        due("24: of two", 2, x.image());
        long digest = x.digest();
        x.act(0, 3);
        x.act(0, 20);
        x.act(1, 1);
        x.change(0, 1, 1, 0);
        x.purse(1, 3, 4);
        for (int town = 0; town < 4; town++) {
            x.price(town, 3);
        }
        due("25: a third", 2, x.person(2, 1));
        x.trail(2);
        x.next(4);
        due("25: two again", 2, x.restore());
        due("25: all as it was", digest, x.digest());
        due("25: the third is gone", -101, x.about(2, 0));
        due("25: no trail", -103, x.ends());
        due("25: no trail to go on with", -103, x.next(0));
        due("25: price", 1, x.town(3, 2));
        due("25: one act", 1, x.count(3));
        due("25: another third", 2, x.person(1, 2));
        due("25: of its kind", 1, x.about(2, 0));
        due("25: without coins", 0, x.about(2, 3));
        x.act(0, 1);
        due("25: twice", 2, x.restore());
        due("25: as it was, twice", digest, x.digest());
        Checks.write(x, "12");
        x.fewest(0, 0, 0);
        x.restore();
        due("25: the page stays", 2, x.count(5));
        due("25: searches stay", 1, x.count(7));
        due("25: laws stay", 1, x.count(6));
        due("25: the trail told none", 0, x.trail(0));
    }

    private static void theLatestImage() {
        OtherCoins x = Checks.under(LAW);
        x.person(0, 0);
        x.image();
        x.act(0, 1);
        x.person(0, 1);
        due("24: the latest", 2, x.image());
        x.act(0, 2);
        due("25: from the latest", 2, x.restore());
        due("25: as the latest", 1, x.about(0, 1));
        x.trail(0);
        x.next(0);
        due("24: an image leaves the trail", 2, x.image());
        due("24: it is there", 1, x.count(4));
    }

    private static void restoreWithoutImage() {
        OtherCoins x = new OtherCoins();
        due("24: no law", -103, x.image());
        due("25: no law", -103, x.restore());
        Checks.write(x, LAW);
        x.law();
        due("25: none was kept", -103, x.restore());
        x.person(0, 0);
        x.trail(0);
        due("25: none was kept", -103, x.restore());
        due("25: the trail stays", 1, x.ways());
        due("24: one", 1, x.image());
        Checks.write(x, "1");
        due("25: a page is no law", -103, x.law());
        due("25: kept", 1, x.restore());
        x.blank();
        Checks.write(x, LAW);
        x.law();
        due("25: the same text", -103, x.restore());
    }

    private static void count() {
        OtherCoins x = Checks.under(LAW);
        Checks.someone(x, 0, 0, 1, 2, 3, 4);
        Checks.someone(x, 4, 3, 4, 4, 0, 0);
        due("26: coins", 18, x.count(0));
        due("26: people", 2, x.count(1));
        due("26: goods", 0, x.count(2));
        x.act(0, 11);
        x.act(1, 10);
        x.act(1, 0);
        x.act(1, 2);
        due("26: coins then", 12, x.count(0));
        due("26: goods then", 2, x.count(2));
        due("26: acts", 3, x.count(3));
        x.trail(0);
        x.next(0);
        x.next(0);
        due("26: purses", 2, x.count(4));
        Checks.write(x, "12:123/023:");
        due("26: letters", 11, x.count(5));
        due("26: laws", 1, x.count(6));
        x.richest(0, 2);
        x.fewest(0, 0, 0);
        x.fewest(0, 0, 9);
        due("26: searches", 2, x.count(7));
        x.price(1, 4);
        x.may(0, 1);
        x.walk(0, 3, 3, 0);
        x.ways();
        due("26: acts stay", 3, x.count(3));
    }

    private static void countRefused() {
        OtherCoins x = new OtherCoins();
        for (int what : new int[] {-1, 8, Integer.MIN_VALUE, Integer.MAX_VALUE}) {
            due("26: outside", -102, x.count(what));
        }
    }

    private static void digest() {
        OtherCoins x = new OtherCoins();
        dueDigest("new", x, "", false);
        Checks.write(x, "0z\u0001");
        dueDigest("a page", x, "0z\u0001", false);
        x.blank();
        Checks.write(x, LAW);
        x.law();
        dueDigest("a law", x, "", false);
        for (int kind = 0; kind < 5; kind++) {
            Checks.someone(x, kind, kind % 4, kind, 4 - kind, 2, 3);
            dueDigest("with " + kind, x, "", false);
        }
        x.act(2, 1);
        x.act(1, 13);
        x.price(2, 1);
        dueDigest("acts", x, "", false);
        x.trail(1);
        dueDigest("a trail", x, "", true);
        x.next(1 + 3 * 5 + 2 * 25 + 2 * 125);
        Checks.write(x, "~~");
        x.fewest(0, 0, 0);
        dueDigest("all", x, "~~", true);
        long digest = x.digest();
        due("27: nothing changes", digest, x.digest());
        x.image();
        x.restore();
        dueDigest("restored", x, "~~", false);
        OtherCoins dead = Checks.under("1:111/0:010/0:010/12:110");
        Checks.someone(dead, 0, 0, 1, 2, 3, 4);
        dueDigest("dead coins", dead, "", false);
    }

    private static void dueDigest(String what, OtherCoins x, String page, boolean trail) {
        long h = 677;
        if (x.count(6) > 0) {
            for (int i = 0; i < 20; i++) {
                h = 31 * h + x.town(i / 5, i % 5);
            }
        }
        for (int person = 0; person < x.count(1); person++) {
            for (int i : new int[] {0, 1, 2, 3, 4, 5, 10, 11, 12, 13}) {
                h = 31 * h + x.about(person, i);
            }
            h = 31 * h + x.dead(person);
            int open = 0;
            for (int act : ACTS) {
                open += x.may(person, act);
            }
            h = 31 * h + open;
        }
        if (trail) {
            h = 31 * (31 * h + x.ways()) + x.ends();
        }
        for (int i = 0; i < page.length(); i++) {
            h = 31 * h + page.charAt(i);
        }
        for (int i = 0; i <= 7; i++) {
            h = 31 * h + x.count(i);
        }
        due("27: " + what, h, x.digest());
    }
}
