/** What all tests use: answers that are due, and an object under a law that is told as a text. */
final class Checks {
    private final String name;
    private int made;
    private int wrong;

    Checks(String name) {
        this.name = name;
    }

    void due(String what, long want, long got) {
        made++;
        if (want != got) {
            wrong++;
            System.out.println(name + ": " + what + " answered " + got + ", due is " + want);
        }
    }

    void end() {
        System.out.println(name + ": " + made + " answers, " + wrong + " not as due");
        if (wrong != 0 || made == 0) {
            System.exit(1);
        }
    }

    static long packed(String letters) {
        long w = 0;
        for (int i = 0; i < letters.length(); i++) {
            w |= (long) letters.charAt(i) << (8 * i);
        }
        return w;
    }

    static void write(OtherCoins x, String text) {
        for (int i = 0; i < text.length(); i += 8) {
            x.letters(packed(text.substring(i, Math.min(i + 8, text.length()))));
        }
    }

    static OtherCoins under(String law) {
        OtherCoins x = new OtherCoins();
        write(x, law);
        if (x.law() < 0) {
            throw new IllegalStateException("no law: " + law);
        }
        return x;
    }

    static int someone(OtherCoins x, int kind, int town, int coins0, int coins1, int coins2, int coins3) {
        int person = x.person(kind, town);
        x.purse(person, 0, coins0);
        x.purse(person, 1, coins1);
        x.purse(person, 2, coins2);
        x.purse(person, 3, coins3);
        return person;
    }
}
