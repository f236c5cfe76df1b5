import java.util.ArrayList;
import java.util.Arrays;
import java.util.HashMap;
import java.util.HashSet;
import java.util.List;
import java.util.Map;
import java.util.Set;
import java.util.regex.Matcher;
import java.util.regex.Pattern;

/** A second writing of the document, as plain as can be and with the Java library, to hold the class against. */
final class Oracle {
    private static final int NONE = -1, UNKNOWN = -101, OUTSIDE = -102, STATE = -103, FULL = -104;
    private static final List<Integer> ACTS = List.of(0, 1, 2, 3, 10, 11, 12, 13, 20, 21, 22, 23);
    private static final Pattern LAW = Pattern.compile(part(0) + "/" + part(1) + "/" + part(2) + "/" + part(3));

    /** What a person is; equal to another by its text. */
    private static final class Being {
        int kind;
        int town;
        int[] purse = new int[4];
        boolean[] goods = new boolean[4];

        Being copy() {
            Being other = new Being();
            other.kind = kind;
            other.town = town;
            other.purse = purse.clone();
            other.goods = goods.clone();
            return other;
        }

        int coins() {
            return Arrays.stream(purse).sum();
        }

        int goodBits() {
            int bits = 0;
            for (int g = 0; g < 4; g++) {
                bits += goods[g] ? 1 << g : 0;
            }
            return bits;
        }

        int purseNumber() {
            return purse[0] + 5 * purse[1] + 25 * purse[2] + 125 * purse[3];
        }

        String key() {
            return town + Arrays.toString(purse) + Arrays.toString(goods);
        }
    }

    private String page = "";
    private String[] law;
    private int[] prices = new int[4];
    private List<Being> people = new ArrayList<>();
    private int acts;
    private int laws;
    private int searches;
    private Being trailStart;
    private List<Integer> trail = new ArrayList<>();
    private List<Being> imagePeople;
    private int[] imagePrices;
    private int imageActs;

    private static String part(int town) {
        String coin = "[0123]".replace("" + town, "");
        StringBuilder takes = new StringBuilder();
        for (int a = 0; a < 4; a++) {
            for (int b = 0; b < 4; b++) {
                for (int c = 0; c < 4; c++) {
                    boolean unlike = a != b && a != c && b != c && a != town && b != town && c != town;
                    if (unlike) {
                        takes.append("|").append(a).append("|").append(a).append(b);
                        takes.append("|").append(a).append(b).append(c);
                    }
                }
            }
        }
        return "(?:" + takes.substring(1) + "):" + coin + "[1-4][0-4]";
    }

    private static boolean isBeginning(String text) {
        Matcher m = LAW.matcher(text);
        return m.matches() || m.hitEnd();
    }

    int letters(long w) {
        StringBuilder more = new StringBuilder();
        boolean ended = false;
        for (int i = 0; i < 8; i++) {
            int code = (int) (w >>> 8 * i) & 0xff;
            if (code > 126 || ended && code != 0) {
                return OUTSIDE;
            }
            ended |= code == 0;
            if (!ended) {
                more.append((char) code);
            }
        }
        if (page.length() + more.length() > 32) {
            return FULL;
        }
        page += more;
        return page.length();
    }

    int blank() {
        int n = page.length();
        page = "";
        return n;
    }

    int fault() {
        for (int n = 1; n <= page.length(); n++) {
            if (!isBeginning(page.substring(0, n))) {
                return n - 1;
            }
        }
        return page.length();
    }

    int law() {
        if (!LAW.matcher(page).matches()) {
            return STATE;
        }
        law = page.split("/");
        page = "";
        int n = 0;
        for (int t = 0; t < 4; t++) {
            prices[t] = figure(t, 2);
            n += law[t].length() - 4;
        }
        people.clear();
        trailStart = null;
        imagePeople = null;
        acts = 0;
        laws++;
        return n;
    }

    /** 1: what it gives, 2: price, 3: pay, of the text. */
    private int figure(int town, int place) {
        return law[town].charAt(law[town].indexOf(':') + place) - '0';
    }

    private boolean takes(int town, int coin) {
        int at = law[town].indexOf((char) ('0' + coin));
        return at >= 0 && at < law[town].indexOf(':');
    }

    int town(int town, int what) {
        if (town < 0 || town > 3) {
            return UNKNOWN;
        }
        if (what < 0 || what > 4) {
            return OUTSIDE;
        }
        if (law == null) {
            return STATE;
        }
        if (what == 0) {
            int bits = 0;
            for (int c = 0; c < 4; c++) {
                bits += takes(town, c) ? 1 << c : 0;
            }
            return bits;
        }
        if (what == 4) {
            return (int) people.stream().filter(p -> p.town == town).count();
        }
        return what == 2 ? prices[town] : figure(town, what);
    }

    int price(int town, int v) {
        if (town < 0 || town > 3) {
            return UNKNOWN;
        }
        if (v < 1 || v > 4) {
            return OUTSIDE;
        }
        if (law == null) {
            return STATE;
        }
        int before = prices[town];
        prices[town] = v;
        return before;
    }

    private boolean nobody(int person) {
        return person < 0 || person >= people.size();
    }

    int person(int kind, int town) {
        if (town < 0 || town > 3) {
            return UNKNOWN;
        }
        if (kind < 0 || kind > 4) {
            return OUTSIDE;
        }
        if (law == null) {
            return STATE;
        }
        if (people.size() == 5) {
            return FULL;
        }
        Being p = new Being();
        p.kind = kind;
        p.town = town;
        people.add(p);
        return people.size() - 1;
    }

    private int costs(Being p) {
        return p.kind == 1 && prices[p.town] > 1 ? prices[p.town] - 1 : prices[p.town];
    }

    private int gets(Being p) {
        return figure(p.town, 3) + (p.kind == 3 ? 1 : p.kind == 4 ? 2 : 0);
    }

    int about(int person, int what) {
        if (nobody(person)) {
            return UNKNOWN;
        }
        Being p = people.get(person);
        switch (what) {
            case 0: return p.kind;
            case 1: return p.town;
            case 2: return p.goodBits();
            case 3: return p.coins();
            case 4: return costs(p);
            case 5: return gets(p);
            case 10: case 11: case 12: case 13: return p.purse[what - 10];
            default: return OUTSIDE;
        }
    }

    int as(int person, int kind) {
        if (nobody(person)) {
            return UNKNOWN;
        }
        if (kind < 0 || kind > 4) {
            return OUTSIDE;
        }
        int own = people.get(person).kind;
        return kind == 0 || kind == own || kind == 3 && own == 4 ? person : NONE;
    }

    int purse(int person, int coin, int v) {
        if (nobody(person) || coin < 0 || coin > 3) {
            return UNKNOWN;
        }
        if (v < 0 || v > 4) {
            return OUTSIDE;
        }
        int before = people.get(person).purse[coin];
        people.get(person).purse[coin] = v;
        return before;
    }

    /** The same being behind an act; null, if it may not be. */
    private Being behind(Being p, int act) {
        Being q = p.copy();
        if (act < 10) {
            q.town = act;
            return act == (p.town + 1) % 4 || p.town == (act + 1) % 4 ? q : null;
        }
        if (act < 20) {
            int coin = act - 10;
            boolean paysWith = p.kind == 2 || p.kind == 4 || takes(p.town, coin);
            if (!paysWith || p.goods[p.town] || p.purse[coin] < costs(p)) {
                return null;
            }
            q.purse[coin] -= costs(p);
            q.goods[p.town] = true;
            return q;
        }
        int good = act - 20;
        int given = figure(p.town, 1);
        if (!p.goods[good] || good == p.town || p.purse[given] + gets(p) > 4) {
            return null;
        }
        q.purse[given] += gets(p);
        q.goods[good] = false;
        return q;
    }

    private List<Integer> open(Being p) {
        List<Integer> open = new ArrayList<>();
        for (int act : ACTS) {
            if (behind(p, act) != null) {
                open.add(act);
            }
        }
        return open;
    }

    int may(int person, int act) {
        if (nobody(person) || !ACTS.contains(act)) {
            return UNKNOWN;
        }
        return behind(people.get(person), act) != null ? 1 : 0;
    }

    int act(int person, int act) {
        if (nobody(person) || !ACTS.contains(act)) {
            return UNKNOWN;
        }
        Being q = behind(people.get(person), act);
        if (q == null) {
            return STATE;
        }
        people.set(person, q);
        acts++;
        return q.coins();
    }

    int change(int a, int c, int b, int d) {
        if (nobody(a) || nobody(b) || a == b || c < 0 || c > 3 || d < 0 || d > 3) {
            return UNKNOWN;
        }
        Being p = people.get(a);
        Being q = people.get(b);
        if (p.town != q.town || p.purse[c] == 0 || q.purse[d] == 0) {
            return STATE;
        }
        if (c != d && (p.purse[d] == 4 || q.purse[c] == 4)) {
            return STATE;
        }
        p.purse[c]--;
        p.purse[d]++;
        q.purse[d]--;
        q.purse[c]++;
        return p.purse[c];
    }

    /** By how few acts one comes to have a good; NONE. */
    private int far(Being from, int good) {
        Map<String, Integer> far = new HashMap<>();
        List<Being> row = new ArrayList<>();
        far.put(from.key(), 0);
        row.add(from);
        for (int i = 0; i < row.size(); i++) {
            Being p = row.get(i);
            int acts = far.get(p.key());
            if (p.goods[good]) {
                return acts;
            }
            for (int act : ACTS) {
                Being q = behind(p, act);
                if (q != null && far.putIfAbsent(q.key(), acts + 1) == null) {
                    row.add(q);
                }
            }
        }
        return NONE;
    }

    int fewest(int person, int good, int what) {
        if (nobody(person) || good < 0 || good > 3) {
            return UNKNOWN;
        }
        if (what < 0 || what > 1) {
            return OUTSIDE;
        }
        if (searches == 40) {
            return STATE;
        }
        searches++;
        Being p = people.get(person);
        int acts = far(p, good);
        if (what == 0 || acts <= 0) {
            return what == 0 ? acts : NONE;
        }
        for (int act : open(p)) {
            if (far(behind(p, act), good) == acts - 1) {
                return act;
            }
        }
        throw new IllegalStateException("no act begins the row");
    }

    int richest(int person, int acts) {
        if (nobody(person)) {
            return UNKNOWN;
        }
        if (acts < 0 || acts > 8) {
            return OUTSIDE;
        }
        if (searches == 40) {
            return STATE;
        }
        searches++;
        Map<String, Being> level = new HashMap<>();
        level.put("", people.get(person));
        int most = people.get(person).coins();
        for (int i = 0; i < acts; i++) {
            Map<String, Being> next = new HashMap<>();
            for (Being p : level.values()) {
                for (int act : open(p)) {
                    Being q = behind(p, act);
                    next.put(q.key(), q);
                    most = Math.max(most, q.coins());
                }
            }
            level = next;
        }
        return most;
    }

    int dead(int person) {
        if (nobody(person)) {
            return UNKNOWN;
        }
        Being p = people.get(person);
        int sum = 0;
        for (int c = 0; c < 4; c++) {
            boolean taken = p.kind == 2 || p.kind == 4;
            for (int t = 0; t < 4; t++) {
                taken |= takes(t, c);
            }
            sum += taken ? 0 : p.purse[c];
        }
        return sum;
    }

    int gains(int town, int price) {
        if (town < 0 || town > 3) {
            return UNKNOWN;
        }
        if (price < 1 || price > 4) {
            return OUTSIDE;
        }
        if (law == null) {
            return STATE;
        }
        int bits = 0;
        int before = prices[town];
        for (int i = 0; i < people.size(); i++) {
            int now = far(people.get(i), town);
            prices[town] = price;
            int then = far(people.get(i), town);
            prices[town] = before;
            bits += then != NONE && (now == NONE || then < now) ? 1 << i : 0;
        }
        return bits;
    }

    int trail(int person) {
        if (nobody(person)) {
            return UNKNOWN;
        }
        int before = trailStart == null ? 0 : trail.size();
        trailStart = people.get(person).copy();
        trail.clear();
        return before;
    }

    int next(int purse) {
        if (trailStart == null) {
            return STATE;
        }
        if (purse < 0 || purse > 624) {
            return OUTSIDE;
        }
        if (trail.size() == 5) {
            return FULL;
        }
        trail.add(purse);
        return trail.size();
    }

    private int rows(Being p, int told, Set<Integer> ends) {
        if (told == trail.size()) {
            ends.add(p.town);
            return 1;
        }
        int sum = 0;
        for (int act : open(p)) {
            Being q = behind(p, act);
            if (q.purseNumber() == trail.get(told)) {
                sum += rows(q, told + 1, ends);
            }
        }
        return sum;
    }

    int ways() {
        return trailStart == null ? STATE : rows(trailStart, 0, new HashSet<>());
    }

    int ends() {
        if (trailStart == null) {
            return STATE;
        }
        Set<Integer> ends = new HashSet<>();
        rows(trailStart, 0, ends);
        return ends.stream().mapToInt(town -> 1 << town).sum();
    }

    int walk(int person, int times, int seed, int what) {
        if (nobody(person)) {
            return UNKNOWN;
        }
        if (times < 1 || times > 60 || seed < 0 || what < 0 || what > 3) {
            return OUTSIDE;
        }
        Being p = people.get(person);
        long s = seed;
        for (int i = 0; i < times; i++) {
            s = (1103515245L * s + 12345L) % 2147483648L;
            List<Integer> open = open(p);
            p = behind(p, open.get((int) (s / 65536 % open.size())));
        }
        return what == 0 ? p.town : what == 1 ? p.coins() : what == 2 ? p.goodBits() : (int) s;
    }

    private static List<Being> copies(List<Being> some) {
        List<Being> copies = new ArrayList<>();
        for (Being p : some) {
            copies.add(p.copy());
        }
        return copies;
    }

    int image() {
        if (law == null) {
            return STATE;
        }
        imagePeople = copies(people);
        imagePrices = prices.clone();
        imageActs = acts;
        return people.size();
    }

    int restore() {
        if (imagePeople == null) {
            return STATE;
        }
        people = copies(imagePeople);
        prices = imagePrices.clone();
        acts = imageActs;
        trailStart = null;
        return people.size();
    }

    int count(int what) {
        switch (what) {
            case 0: return people.stream().mapToInt(Being::coins).sum();
            case 1: return people.size();
            case 2: return people.stream().mapToInt(p -> Integer.bitCount(p.goodBits())).sum();
            case 3: return acts;
            case 4: return trailStart == null ? 0 : trail.size();
            case 5: return page.length();
            case 6: return laws;
            case 7: return searches;
            default: return OUTSIDE;
        }
    }

    long digest() {
        List<Integer> numbers = new ArrayList<>();
        for (int i = 0; law != null && i < 20; i++) {
            numbers.add(town(i / 5, i % 5));
        }
        for (int i = 0; i < people.size(); i++) {
            for (int what : new int[] {0, 1, 2, 3, 4, 5, 10, 11, 12, 13}) {
                numbers.add(about(i, what));
            }
            numbers.add(dead(i));
            numbers.add(open(people.get(i)).size());
        }
        if (trailStart != null) {
            numbers.add(ways());
            numbers.add(ends());
        }
        page.chars().forEach(numbers::add);
        for (int what = 0; what <= 7; what++) {
            numbers.add(count(what));
        }
        long h = 677;
        for (int number : numbers) {
            h = 31 * h + number;
        }
        return h;
    }
}
