import java.util.Random;

/** Random runs of 512 calls (by seeds that are told here), each answer held against that of the Oracle. */
final class OracleTest {
    private static final int RUNS = 150;
    private static final int SEARCHING_RUNS = 60;
    private static final int[] ODD = {-1, 4, 5, 9, 14, 24, 60, 61, Integer.MIN_VALUE, Integer.MAX_VALUE};
    private static final Checks CHECKS = new Checks("OracleTest");

    private final int run;
    private final Random random;
    private final OtherCoins x = new OtherCoins();
    private final Oracle oracle = new Oracle();
    private int calls;

    private OracleTest(int run) {
        this.run = run;
        this.random = new Random(run);
    }

    public static void main(String[] args) {
        for (int run = 0; run < RUNS; run++) {
            new OracleTest(run).go();
        }
        for (int run = RUNS; run < RUNS + SEARCHING_RUNS; run++) {
            new OracleTest(run).search();
        }
        CHECKS.end();
    }

    private void go() {
        while (calls < 512) {
            someCall();
            if (calls % 64 == 63) {
                due("digest()", oracle.digest(), x.digest());
            }
        }
    }

    /** Five with full purses under a law, and all searches that may be done. */
    private void search() {
        write(lawText());
        due("law()", oracle.law(), x.law());
        for (int person = 0; person < 5; person++) {
            int kind = random.nextInt(5);
            int town = random.nextInt(4);
            due("person", oracle.person(kind, town), x.person(kind, town));
            for (int coin = 0; coin < 4; coin++) {
                int v = random.nextInt(5);
                due("purse", oracle.purse(person, coin, v), x.purse(person, coin, v));
            }
            anActOfOne();
        }
        for (int i = 0; i < 32; i++) {
            int person = i / 8 + random.nextInt(2);
            String call = "fewest(" + person + ", " + i / 2 % 4 + ", " + i % 2 + ")";
            due(call, oracle.fewest(person, i / 2 % 4, i % 2), x.fewest(person, i / 2 % 4, i % 2));
        }
        for (int i = 0; i < 8; i++) {
            due("richest(" + i % 5 + ", " + (8 - i) + ")", oracle.richest(i % 5, 8 - i), x.richest(i % 5, 8 - i));
        }
        for (int i = 0; i < 16; i++) {
            String call = "gains(" + i % 4 + ", " + (1 + i / 4) + ")";
            due(call, oracle.gains(i % 4, 1 + i / 4), x.gains(i % 4, 1 + i / 4));
        }
    }

    private void due(String call, long want, long got) {
        calls++;
        CHECKS.due("run " + run + ", call " + calls + ", " + call, want, got);
    }

    /** A number below n; now and then an odd one. */
    private int below(int n) {
        return random.nextInt(40) == 0 ? ODD[random.nextInt(ODD.length)] : random.nextInt(n);
    }

    private int anAct() {
        return random.nextInt(3) * 10 + below(4);
    }

    private void someCall() {
        if (oracle.town(0, 0) < 0 || random.nextInt(150) == 0) {
            aLaw();
            return;
        }
        if (oracle.count(1) == 0 || random.nextInt(40) == 0) {
            aPerson();
            return;
        }
        switch (random.nextInt(16)) {
            case 0: aPage(); break;
            case 1: aTown(); break;
            case 2: aPurse(); break;
            case 3: aQuestion(); break;
            case 4: aChange(); break;
            case 5: case 6: aSearch(); break;
            case 7: case 8: aTrail(); break;
            case 9: aWalk(); break;
            case 10: anImage(); break;
            default: anActOfOne(); break;
        }
    }

    private String lawText() {
        StringBuilder text = new StringBuilder();
        for (int town = 0; town < 4; town++) {
            int most = 1 + random.nextInt(3);
            StringBuilder takes = new StringBuilder();
            for (int i = 0; i < most; i++) {
                int coin = random.nextInt(4);
                if (coin != town && takes.indexOf("" + coin) < 0) {
                    takes.append(coin);
                }
            }
            if (takes.length() == 0) {
                takes.append((town + 1 + random.nextInt(3)) % 4);
            }
            text.append(town == 0 ? "" : "/").append(takes).append(":");
            text.append((town + 1 + random.nextInt(3)) % 4);
            text.append(1 + random.nextInt(4)).append(random.nextInt(5));
        }
        return text.toString();
    }

    private void write(String text) {
        for (int i = 0; i < text.length(); i += 8) {
            long w = Checks.packed(text.substring(i, Math.min(i + 8, text.length())));
            due("letters(" + w + ")", oracle.letters(w), x.letters(w));
        }
    }

    private void aLaw() {
        due("blank()", oracle.blank(), x.blank());
        StringBuilder text = new StringBuilder(lawText());
        if (random.nextInt(3) == 0) {
            text.setCharAt(random.nextInt(text.length()), "01234:/ x".charAt(random.nextInt(9)));
        }
        if (random.nextInt(8) == 0) {
            text.append("/0:1".charAt(random.nextInt(4)));
        }
        write(text.toString());
        due("fault()", oracle.fault(), x.fault());
        due("law()", oracle.law(), x.law());
        due("fault()", oracle.fault(), x.fault());
    }

    private void aPage() {
        switch (random.nextInt(5)) {
            case 0:
                due("blank()", oracle.blank(), x.blank());
                break;
            case 1:
                long w = random.nextLong() >>> random.nextInt(64) & 0x7f7f7f7f7f7f7f7fL;
                due("letters(" + w + ")", oracle.letters(w), x.letters(w));
                break;
            case 2:
                due("law()", oracle.law(), x.law());
                break;
            default:
                String text = lawText();
                write(text.substring(0, random.nextInt(text.length())));
                due("fault()", oracle.fault(), x.fault());
                break;
        }
    }

    private void aPerson() {
        int kind = below(5);
        int town = below(4);
        due("person(" + kind + ", " + town + ")", oracle.person(kind, town), x.person(kind, town));
    }

    private void aTown() {
        int town = below(4);
        int what = below(5);
        due("town(" + town + ", " + what + ")", oracle.town(town, what), x.town(town, what));
        int v = 1 + below(4);
        due("price(" + town + ", " + v + ")", oracle.price(town, v), x.price(town, v));
    }

    private void aPurse() {
        int person = below(oracle.count(1));
        int coin = below(4);
        int v = below(5);
        String call = "purse(" + person + ", " + coin + ", " + v + ")";
        due(call, oracle.purse(person, coin, v), x.purse(person, coin, v));
    }

    private void aQuestion() {
        int person = below(oracle.count(1));
        int what = below(14);
        due("about(" + person + ", " + what + ")", oracle.about(person, what), x.about(person, what));
        due("as(" + person + ", " + what % 6 + ")", oracle.as(person, what % 6), x.as(person, what % 6));
        due("dead(" + person + ")", oracle.dead(person), x.dead(person));
        due("count(" + what + ")", oracle.count(what), x.count(what));
        for (int act = -1; act < 25; act++) {
            due("may(" + person + ", " + act + ")", oracle.may(person, act), x.may(person, act));
        }
    }

    private void aChange() {
        int a = below(oracle.count(1));
        int b = below(oracle.count(1));
        int c = below(4);
        int d = below(4);
        String call = "change(" + a + ", " + c + ", " + b + ", " + d + ")";
        due(call, oracle.change(a, c, b, d), x.change(a, c, b, d));
    }

    private void aSearch() {
        int person = below(oracle.count(1));
        int good = below(4);
        int what = below(2);
        switch (random.nextInt(6)) {
            case 0:
                int acts = below(9);
                due("richest(" + person + ", " + acts + ")", oracle.richest(person, acts), x.richest(person, acts));
                break;
            case 1:
                int price = 1 + below(4);
                due("gains(" + good + ", " + price + ")", oracle.gains(good, price), x.gains(good, price));
                break;
            case 2:
                String call = "fewest(" + person + ", " + good + ", " + what + ")";
                due(call, oracle.fewest(person, good, what), x.fewest(person, good, what));
                break;
            default:
                anActOfOne();
                break;
        }
    }

    private void aTrail() {
        int person = below(oracle.count(1));
        if (random.nextInt(4) == 0) {
            due("trail(" + person + ")", oracle.trail(person), x.trail(person));
        }
        int purse = 0;
        for (int coin = 3; coin >= 0; coin--) {
            purse = 5 * purse + Math.max(0, oracle.about(person, 10 + coin));
        }
        purse = random.nextInt(20) == 0 ? below(625) : purse;
        due("next(" + purse + ")", oracle.next(purse), x.next(purse));
        due("ways()", oracle.ways(), x.ways());
        due("ends()", oracle.ends(), x.ends());
        if (person >= 0 && person < oracle.count(1)) {
            doOne(person);
        }
    }

    private void aWalk() {
        int person = below(oracle.count(1));
        int times = below(61);
        int seed = random.nextInt(8) == 0 ? ODD[random.nextInt(ODD.length)] : random.nextInt(Integer.MAX_VALUE);
        int what = below(4);
        String call = "walk(" + person + ", " + times + ", " + seed + ", " + what + ")";
        due(call, oracle.walk(person, times, seed, what), x.walk(person, times, seed, what));
    }

    private void anImage() {
        if (random.nextInt(3) == 0) {
            due("restore()", oracle.restore(), x.restore());
        } else if (random.nextInt(2) == 0) {
            due("image()", oracle.image(), x.image());
        }
    }

    private void anActOfOne() {
        int person = below(oracle.count(1));
        int act = anAct();
        due("act(" + person + ", " + act + ")", oracle.act(person, act), x.act(person, act));
    }

    /** An act that may be. */
    private void doOne(int person) {
        for (int i = 0; i < 20; i++) {
            int act = anAct();
            if (oracle.may(person, act) == 1) {
                due("act(" + person + ", " + act + ")", oracle.act(person, act), x.act(person, act));
                return;
            }
        }
    }
}
