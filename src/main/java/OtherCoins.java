import java.util.Arrays;

/** Four towns in a ring that take just coins that are not their own; the document tells each call. */
public final class OtherCoins {
    public static final int NONE = -1, UNKNOWN = -101, OUTSIDE = -102, STATE = -103, FULL = -104;

    private static final int TOWNS = 4, MOST_PEOPLE = 5, MOST_OF_A_COIN = 4, HIGHEST_PRICE = 4;
    private static final int MOST_LETTERS = 32, HIGHEST_CODE = 126;
    private static final int MOST_ACTS_AHEAD = 8, MOST_SEARCHES = 40;
    private static final int MOST_PURSES = 5, PURSE_NUMBERS = 625, MOST_TIMES = 60;
    private static final long TWO_TO_THE_31 = 1L << 31;
    private static final int BUY = 10, SELL = 20;
    private static final int[] ACTS = {0, 1, 2, 3, 10, 11, 12, 13, 20, 21, 22, 23};
    private static final Kind[] KINDS = Kind.values();

    private final Page page = new Page();
    private final Person[] people = new Person[MOST_PEOPLE];
    private final Deal deal = new Deal();
    private final Search search = new Search();
    private final Trail trail = new Trail();
    private final Image image = new Image();
    private Law law = new Law();
    private Law draft = new Law();
    private int peopleCount;
    private int actsDone;
    private int lawsRead;
    private int searchesDone;

    public OtherCoins() {
        for (int i = 0; i < MOST_PEOPLE; i++) {
            people[i] = new Person();
        }
    }

    // ---- the law

    public int letters(long w) {
        return page.add(w);
    }

    public int blank() {
        return page.clear();
    }

    public int fault() {
        return draft.read(page);
    }

    public int law() {
        if (draft.read(page) != page.size || !draft.isWhole()) {
            return STATE;
        }
        Law gone = law;
        law = draft;
        draft = gone;
        page.clear();
        trail.begun = false;
        image.kept = false;
        peopleCount = 0;
        actsDone = 0;
        lawsRead++;
        return law.coinsTaken();
    }

    public int town(int town, int what) {
        if (!isTown(town)) {
            return UNKNOWN;
        }
        if (what < 0 || what > 4) {
            return OUTSIDE;
        }
        if (isLawless()) {
            return STATE;
        }
        switch (what) {
            case 0: return law.takes[town];
            case 1: return law.gives[town];
            case 2: return law.price[town];
            case 3: return law.pay[town];
            default: return peopleIn(town);
        }
    }

    public int price(int town, int v) {
        if (!isTown(town)) {
            return UNKNOWN;
        }
        if (!isPrice(v)) {
            return OUTSIDE;
        }
        if (isLawless()) {
            return STATE;
        }
        int before = law.price[town];
        law.price[town] = v;
        return before;
    }

    // ---- people

    public int person(int kind, int town) {
        if (!isTown(town)) {
            return UNKNOWN;
        }
        if (!isKind(kind)) {
            return OUTSIDE;
        }
        if (isLawless()) {
            return STATE;
        }
        if (peopleCount >= MOST_PEOPLE) {
            return FULL;
        }
        Person comer = people[peopleCount];
        comer.kind = KINDS[kind];
        comer.standing = town;
        peopleCount++;
        return peopleCount - 1;
    }

    public int about(int person, int what) {
        if (!isPerson(person)) {
            return UNKNOWN;
        }
        Person who = people[person];
        int here = Standing.townOf(who.standing);
        switch (what) {
            case 0: return who.kind.number;
            case 1: return here;
            case 2: return Standing.goodsOf(who.standing);
            case 3: return Standing.coinsTogether(who.standing);
            case 4: return who.kind.cost(law.price[here]);
            case 5: return who.kind.gain(law.pay[here]);
            default: return isCoin(what - 10) ? Standing.coinsOf(who.standing, what - 10) : OUTSIDE;
        }
    }

    public int as(int person, int kind) {
        if (!isPerson(person)) {
            return UNKNOWN;
        }
        if (!isKind(kind)) {
            return OUTSIDE;
        }
        return people[person].kind.isAlso(KINDS[kind]) ? person : NONE;
    }

    public int purse(int person, int coin, int v) {
        if (!isPerson(person) || !isCoin(coin)) {
            return UNKNOWN;
        }
        if (v < 0 || v > MOST_OF_A_COIN) {
            return OUTSIDE;
        }
        Person who = people[person];
        int before = Standing.coinsOf(who.standing, coin);
        who.standing = Standing.withMore(who.standing, coin, v - before);
        return before;
    }

    public int may(int person, int act) {
        if (!isPerson(person) || !isAct(act)) {
            return UNKNOWN;
        }
        return dealFor(person).after(people[person].standing, act) == Deal.MAY_NOT ? 0 : 1;
    }

    public int act(int person, int act) {
        if (!isPerson(person) || !isAct(act)) {
            return UNKNOWN;
        }
        Person who = people[person];
        int after = dealFor(person).after(who.standing, act);
        if (after == Deal.MAY_NOT) {
            return STATE;
        }
        who.standing = after;
        actsDone++;
        return Standing.coinsTogether(after);
    }

    public int change(int a, int c, int b, int d) {
        if (!isPerson(a) || !isPerson(b) || a == b || !isCoin(c) || !isCoin(d)) {
            return UNKNOWN;
        }
        Person one = people[a];
        Person other = people[b];
        if (Standing.townOf(one.standing) != Standing.townOf(other.standing)
                || !one.canSwap(c, d) || !other.canSwap(d, c)) {
            return STATE;
        }
        one.swap(c, d);
        other.swap(d, c);
        return Standing.coinsOf(one.standing, c);
    }

    // ---- what would be

    public int fewest(int person, int good, int what) {
        if (!isPerson(person) || !isTown(good)) {
            return UNKNOWN;
        }
        if (what < 0 || what > 1) {
            return OUTSIDE;
        }
        if (searchesDone >= MOST_SEARCHES) {
            return STATE;
        }
        searchesDone++;
        int standing = people[person].standing;
        if (Standing.hasGood(standing, good)) {
            return what == 0 ? 0 : NONE;
        }
        int first = search.firstToward(dealFor(person), standing, good);
        return what == 1 || first == NONE ? first : search.depth + 1;
    }

    public int richest(int person, int acts) {
        if (!isPerson(person)) {
            return UNKNOWN;
        }
        if (acts < 0 || acts > MOST_ACTS_AHEAD) {
            return OUTSIDE;
        }
        if (searchesDone >= MOST_SEARCHES) {
            return STATE;
        }
        searchesDone++;
        return search.mostCoins(dealFor(person), people[person].standing, acts);
    }

    public int dead(int person) {
        if (!isPerson(person)) {
            return UNKNOWN;
        }
        Deal terms = dealFor(person);
        int sum = 0;
        for (int coin = 0; coin < TOWNS; coin++) {
            if (!terms.paysAnywhere(coin)) {
                sum += Standing.coinsOf(people[person].standing, coin);
            }
        }
        return sum;
    }

    public int gains(int town, int price) {
        if (!isTown(town)) {
            return UNKNOWN;
        }
        if (!isPrice(price)) {
            return OUTSIDE;
        }
        if (isLawless()) {
            return STATE;
        }
        int gaining = 0;
        for (int i = 0; i < peopleCount; i++) {
            Person who = people[i];
            if (search.isSooner(dealFor(i), who.standing, town, who.kind.cost(price))) {
                gaining |= 1 << i;
            }
        }
        return gaining;
    }

    // ---- where a purse has been

    public int trail(int person) {
        if (!isPerson(person)) {
            return UNKNOWN;
        }
        int before = trail.pursesTold();
        trail.begin(people[person]);
        return before;
    }

    public int next(int purse) {
        if (!trail.begun) {
            return STATE;
        }
        if (purse < 0 || purse >= PURSE_NUMBERS) {
            return OUTSIDE;
        }
        return trail.add(Standing.purseOf(purse));
    }

    public int ways() {
        if (!trail.begun) {
            return STATE;
        }
        trail.follow(deal.set(law, trail.kind));
        return trail.rows();
    }

    public int ends() {
        if (!trail.begun) {
            return STATE;
        }
        trail.follow(deal.set(law, trail.kind));
        return trail.towns();
    }

    public int walk(int person, int times, int seed, int what) {
        if (!isPerson(person)) {
            return UNKNOWN;
        }
        if (times < 1 || times > MOST_TIMES || seed < 0 || what < 0 || what > 3) {
            return OUTSIDE;
        }
        Deal terms = dealFor(person);
        int standing = people[person].standing;
        int last = seed;
        for (int i = 0; i < times; i++) {
            last = seedBehind(last);
            standing = terms.afterDraw(standing, last / 65536);
        }
        switch (what) {
            case 0: return Standing.townOf(standing);
            case 1: return Standing.coinsTogether(standing);
            case 2: return Standing.goodsOf(standing);
            default: return last;
        }
    }

    // ---- what is told of all

    public int image() {
        if (isLawless()) {
            return STATE;
        }
        image.kept = true;
        image.peopleCount = peopleCount;
        image.actsDone = actsDone;
        for (int i = 0; i < MOST_PEOPLE; i++) {
            image.standing[i] = people[i].standing;
        }
        for (int i = 0; i < TOWNS; i++) {
            image.price[i] = law.price[i];
        }
        return peopleCount;
    }

    public int restore() {
        if (!image.kept) {
            return STATE;
        }
        trail.begun = false;
        peopleCount = image.peopleCount;
        actsDone = image.actsDone;
        for (int i = 0; i < MOST_PEOPLE; i++) {
            people[i].standing = image.standing[i];
        }
        for (int i = 0; i < TOWNS; i++) {
            law.price[i] = image.price[i];
        }
        return peopleCount;
    }

    public int count(int what) {
        switch (what) {
            case 0: return coinsOfAll();
            case 1: return peopleCount;
            case 2: return goodsOfAll();
            case 3: return actsDone;
            case 4: return trail.pursesTold();
            case 5: return page.size;
            case 6: return lawsRead;
            case 7: return searchesDone;
            default: return OUTSIDE;
        }
    }

    public long digest() {
        long h = 677;
        if (!isLawless()) {
            for (int i = 0; i < TOWNS; i++) {
                for (int what = 0; what <= 4; what++) {
                    h = fold(h, town(i, what));
                }
            }
        }
        for (int i = 0; i < peopleCount; i++) {
            h = foldPerson(h, i);
        }
        if (trail.begun) {
            h = fold(fold(h, ways()), ends());
        }
        for (int i = 0; i < page.size; i++) {
            h = fold(h, page.codes[i]);
        }
        for (int what = 0; what <= 7; what++) {
            h = fold(h, count(what));
        }
        return h;
    }

    private static long fold(long h, long number) {
        return 31 * h + number;
    }

    private long foldPerson(long before, int person) {
        long h = before;
        for (int what = 0; what <= 5; what++) {
            h = fold(h, about(person, what));
        }
        for (int what = 10; what <= 13; what++) {
            h = fold(h, about(person, what));
        }
        h = fold(h, dead(person));
        return fold(h, dealFor(person).actsOpen(people[person].standing));
    }

    private static boolean isTown(int number) {
        return number >= 0 && number < TOWNS;
    }

    private static boolean isCoin(int number) {
        return number >= 0 && number < TOWNS;
    }

    private static boolean isKind(int number) {
        return number >= 0 && number < KINDS.length;
    }

    private static boolean isPrice(int number) {
        return number >= 1 && number <= HIGHEST_PRICE;
    }

    private static boolean isAct(int number) {
        for (int act : ACTS) {
            if (act == number) {
                return true;
            }
        }
        return false;
    }

    private static int seedBehind(int seed) {
        return (int) ((1103515245L * seed + 12345L) % TWO_TO_THE_31);
    }

    private boolean isPerson(int number) {
        return number >= 0 && number < peopleCount;
    }

    // a law goes only when another one comes
    private boolean isLawless() {
        return lawsRead == 0;
    }

    private Deal dealFor(int person) {
        return deal.set(law, people[person].kind);
    }

    private int peopleIn(int town) {
        int n = 0;
        for (int i = 0; i < peopleCount; i++) {
            if (Standing.townOf(people[i].standing) == town) {
                n++;
            }
        }
        return n;
    }

    private int coinsOfAll() {
        int sum = 0;
        for (int i = 0; i < peopleCount; i++) {
            sum += Standing.coinsTogether(people[i].standing);
        }
        return sum;
    }

    private int goodsOfAll() {
        int sum = 0;
        for (int i = 0; i < peopleCount; i++) {
            sum += Integer.bitCount(Standing.goodsOf(people[i].standing));
        }
        return sum;
    }

    /** What is written and not yet read. */
    private static final class Page {
        final int[] codes = new int[MOST_LETTERS];
        int size;

        int add(long w) {
            int n = lettersIn(w);
            if (n == OUTSIDE) {
                return OUTSIDE;
            }
            if (size + n > codes.length) {
                return FULL;
            }
            for (int i = 0; i < n; i++) {
                codes[size + i] = codeAt(w, i);
            }
            size += n;
            return size;
        }

        int clear() {
            int before = size;
            size = 0;
            return before;
        }

        static int codeAt(long w, int place) {
            return (int) ((w >>> (8 * place)) & 255);
        }

        static int lettersIn(long w) {
            int n = 0;
            for (int i = 0; i < 8; i++) {
                int code = codeAt(w, i);
                boolean behindZero = n < i;
                if (code > HIGHEST_CODE || (code != 0 && behindZero)) {
                    return OUTSIDE;
                }
                if (code != 0) {
                    n++;
                }
            }
            return n;
        }
    }

    /** A law, or as much of one as has been read, letter by letter. */
    private static final class Law {
        static final int TAKES = 0, GIVES = 1, PRICE = 2, PAY = 3, END = 4;

        final int[] takes = new int[TOWNS];
        final int[] gives = new int[TOWNS];
        final int[] price = new int[TOWNS];
        final int[] pay = new int[TOWNS];
        int part;
        int due;

        /** How many letters, from the first on, a law may have there. */
        int read(Page page) {
            Arrays.fill(takes, 0);
            part = 0;
            due = TAKES;
            for (int i = 0; i < page.size; i++) {
                if (!readLetter(page.codes[i])) {
                    return i;
                }
            }
            return page.size;
        }

        boolean isWhole() {
            return part == TOWNS - 1 && due == END;
        }

        int coinsTaken() {
            int sum = 0;
            for (int i = 0; i < TOWNS; i++) {
                sum += Integer.bitCount(takes[i]);
            }
            return sum;
        }

        private boolean readLetter(int code) {
            int digit = code - '0';
            switch (due) {
                case TAKES: return code == ':' ? endTakes() : readTaken(digit);
                case GIVES: return isForeign(digit) && put(gives, digit);
                case PRICE: return isPrice(digit) && put(price, digit);
                case PAY: return digit >= 0 && digit <= 4 && put(pay, digit);
                default: return code == '/' && nextPart();
            }
        }

        private boolean isForeign(int coin) {
            return isCoin(coin) && coin != part;
        }

        private boolean endTakes() {
            if (takes[part] == 0) {
                return false;
            }
            due = GIVES;
            return true;
        }

        private boolean readTaken(int coin) {
            if (!isForeign(coin) || ((takes[part] >> coin) & 1) == 1) {
                return false;
            }
            takes[part] |= 1 << coin;
            return true;
        }

        private boolean put(int[] row, int digit) {
            row[part] = digit;
            due++;
            return true;
        }

        private boolean nextPart() {
            if (part >= TOWNS - 1) {
                return false;
            }
            part++;
            due = TAKES;
            return true;
        }
    }

    private enum Kind {
        PERSON(0, 0, 0, false),
        BEGGAR(1, 1, 0, false),
        THIEF(2, 0, 0, true),
        MERCHANT(3, 0, 1, false),
        SMUGGLER(4, 0, 2, true);

        final int number;
        final int costsLess;
        final int getsMore;
        final boolean paysWithAny;

        Kind(int number, int costsLess, int getsMore, boolean paysWithAny) {
            this.number = number;
            this.costsLess = costsLess;
            this.getsMore = getsMore;
            this.paysWithAny = paysWithAny;
        }

        int cost(int price) {
            return Math.max(1, price - costsLess);
        }

        int gain(int pay) {
            return pay + getsMore;
        }

        boolean isAlso(Kind other) {
            return other == this || other == PERSON || (this == SMUGGLER && other == MERCHANT);
        }
    }

    /** What a person is: its town in two bits, its goods in four above them, its purse in three for each coin. */
    private static final class Standing {
        static final int PLACES = 64, PLACE_BITS = 6, BITS = 18;

        static int townOf(int standing) {
            return standing & 3;
        }

        static int goodsOf(int standing) {
            return (standing >> 2) & 15;
        }

        static boolean hasGood(int standing, int good) {
            return ((standing >> (2 + good)) & 1) == 1;
        }

        static int coinsOf(int standing, int coin) {
            return (standing >> (PLACE_BITS + 3 * coin)) & 7;
        }

        static int coinsTogether(int standing) {
            return coinsOf(standing, 0) + coinsOf(standing, 1) + coinsOf(standing, 2) + coinsOf(standing, 3);
        }

        static int withMore(int standing, int coin, int more) {
            return standing + more * (1 << (PLACE_BITS + 3 * coin));
        }

        static int withTown(int standing, int town) {
            return (standing & ~3) | town;
        }

        static int withOtherGood(int standing, int good) {
            return standing ^ (1 << (2 + good));
        }

        static int placeOf(int standing) {
            return standing & (PLACES - 1);
        }

        static int withoutPlace(int standing) {
            return standing & -PLACES;
        }

        static int purseOf(int number) {
            int purse = 0;
            int rest = number;
            for (int coin = 0; coin < TOWNS; coin++) {
                purse = withMore(purse, coin, rest % 5);
                rest /= 5;
            }
            return purse;
        }
    }

    private static final class Person {
        Kind kind = Kind.PERSON;
        int standing;

        boolean canSwap(int given, int taken) {
            return Standing.coinsOf(standing, given) > 0
                    && (given == taken || Standing.coinsOf(standing, taken) < MOST_OF_A_COIN);
        }

        void swap(int given, int taken) {
            standing = Standing.withMore(Standing.withMore(standing, given, -1), taken, 1);
        }
    }

    /** What the towns ask of a kind and give it, by the prices of now. */
    private static final class Deal {
        static final int MAY_NOT = -1;

        final int[] cost = new int[TOWNS];
        final int[] gets = new int[TOWNS];
        final int[] gives = new int[TOWNS];
        final int[] payable = new int[TOWNS];

        Deal set(Law law, Kind kind) {
            for (int i = 0; i < TOWNS; i++) {
                cost[i] = kind.cost(law.price[i]);
                gets[i] = kind.gain(law.pay[i]);
                gives[i] = law.gives[i];
                payable[i] = kind.paysWithAny ? 15 : law.takes[i];
            }
            return this;
        }

        boolean paysAnywhere(int coin) {
            return (((payable[0] | payable[1] | payable[2] | payable[3]) >> coin) & 1) == 1;
        }

        /** What it is behind an act; MAY_NOT. */
        int after(int standing, int act) {
            if (act < BUY) {
                return afterGoing(standing, act);
            }
            return act < SELL ? afterBuying(standing, act - BUY) : afterSelling(standing, act - SELL);
        }

        int actsOpen(int standing) {
            int n = 0;
            for (int act : ACTS) {
                if (after(standing, act) != MAY_NOT) {
                    n++;
                }
            }
            return n;
        }

        int afterDraw(int standing, int draw) {
            int open = actsOpen(standing);
            if (open <= 0) {
                return standing;
            }
            int left = draw % open;
            for (int act : ACTS) {
                int after = after(standing, act);
                if (after != MAY_NOT) {
                    if (left == 0) {
                        return after;
                    }
                    left--;
                }
            }
            return standing;
        }

        boolean canPay(int town, int coin, int had, int sum) {
            return ((payable[town] >> coin) & 1) == 1 && had >= sum;
        }

        private static int afterGoing(int standing, int town) {
            // in a ring of four, just the towns of the other parity are joined with one
            boolean joined = ((Standing.townOf(standing) + town) & 1) == 1;
            return joined ? Standing.withTown(standing, town) : MAY_NOT;
        }

        private int afterBuying(int standing, int coin) {
            int town = Standing.townOf(standing);
            if (Standing.hasGood(standing, town)
                    || !canPay(town, coin, Standing.coinsOf(standing, coin), cost[town])) {
                return MAY_NOT;
            }
            return Standing.withOtherGood(Standing.withMore(standing, coin, -cost[town]), town);
        }

        private int afterSelling(int standing, int good) {
            int town = Standing.townOf(standing);
            if (!Standing.hasGood(standing, good) || good == town
                    || Standing.coinsOf(standing, gives[town]) + gets[town] > MOST_OF_A_COIN) {
                return MAY_NOT;
            }
            return Standing.withOtherGood(Standing.withMore(standing, gives[town], gets[town]), good);
        }
    }

    /** All that one can be, level by level: a level is what it takes just so many acts to be. */
    private static final class Search {
        static final int MOST_STANDINGS = TOWNS * 16 * PURSE_NUMBERS;

        final int[] seen = new int[1 << (Standing.BITS - 5)];
        // each is a standing and, above its bits, the least act that begins a shortest row to it
        final int[] found = new int[MOST_STANDINGS];
        int foundCount;
        int levelStart;
        int levelEnd;
        int depth;

        /** The least act that begins a shortest row to a good that is not yet had; NONE. */
        int firstToward(Deal deal, int standing, int good) {
            begin(standing);
            for (int i = 0; i < MOST_STANDINGS && levelStart < levelEnd; i++) {
                int first = firstToBuy(deal, good, deal.cost[good]);
                if (first != NONE) {
                    return first;
                }
                deepen(deal);
            }
            return NONE;
        }

        /** Whether a good is had by fewer acts if it costs another sum. */
        boolean isSooner(Deal deal, int standing, int good, int otherCost) {
            // only the last act of a row pays what the good costs: a sum that is not lower helps nobody
            if (otherCost >= deal.cost[good] || Standing.hasGood(standing, good)) {
                return false;
            }
            begin(standing);
            for (int i = 0; i < MOST_STANDINGS && levelStart < levelEnd; i++) {
                if (firstToBuy(deal, good, deal.cost[good]) != NONE) {
                    return false;
                }
                if (firstToBuy(deal, good, otherCost) != NONE) {
                    return true;
                }
                deepen(deal);
            }
            return false;
        }

        int mostCoins(Deal deal, int standing, int acts) {
            begin(standing);
            for (int i = 0; i < acts; i++) {
                deepen(deal);
            }
            int most = 0;
            for (int i = 0; i < foundCount; i++) {
                most = Math.max(most, Standing.coinsTogether(found[i]));
            }
            return most;
        }

        private void begin(int standing) {
            Arrays.fill(seen, 0);
            foundCount = 0;
            depth = 0;
            find(standing, 0);
            levelStart = 0;
            levelEnd = foundCount;
        }

        private void deepen(Deal deal) {
            for (int i = levelStart; i < levelEnd; i++) {
                int standing = standingAt(i);
                for (int act : ACTS) {
                    int after = deal.after(standing, act);
                    if (after != Deal.MAY_NOT) {
                        find(after, firstActTo(i, act));
                    }
                }
            }
            levelStart = levelEnd;
            levelEnd = foundCount;
            depth++;
        }

        // what is found first in a level has the least first act: levels stay in the order of these
        private void find(int standing, int firstAct) {
            int word = (standing >> 5) & (seen.length - 1);
            int bit = 1 << (standing & 31);
            if ((seen[word] & bit) == 0 && foundCount < found.length) {
                seen[word] |= bit;
                found[foundCount] = standing | (firstAct << Standing.BITS);
                foundCount++;
            }
        }

        private int firstToBuy(Deal deal, int good, int cost) {
            for (int i = levelStart; i < levelEnd; i++) {
                int standing = standingAt(i);
                for (int coin = 0; coin < TOWNS && Standing.townOf(standing) == good; coin++) {
                    if (deal.canPay(good, coin, Standing.coinsOf(standing, coin), cost)) {
                        return firstActTo(i, BUY + coin);
                    }
                }
            }
            return NONE;
        }

        private int standingAt(int place) {
            return found[place] & ((1 << Standing.BITS) - 1);
        }

        private int firstActTo(int place, int nextAct) {
            return depth == 0 ? nextAct : found[place] >> Standing.BITS;
        }
    }

    /** The purses that were told of one, and all rows of acts by which it can have had them. */
    private static final class Trail {
        final int[] purses = new int[MOST_PURSES];
        int[] rowsTo = new int[Standing.PLACES];
        int[] rowsBehind = new int[Standing.PLACES];
        boolean begun;
        Kind kind = Kind.PERSON;
        int start;
        int size;

        void begin(Person who) {
            begun = true;
            kind = who.kind;
            start = who.standing;
            size = 0;
        }

        int add(int purse) {
            if (size >= purses.length) {
                return FULL;
            }
            purses[size] = purse;
            size++;
            return size;
        }

        int pursesTold() {
            return begun ? size : 0;
        }

        /** Counts in rowsTo, by towns and goods, the rows of acts along all purses. */
        void follow(Deal deal) {
            Arrays.fill(rowsTo, 0);
            rowsTo[Standing.placeOf(start)] = 1;
            int purse = Standing.withoutPlace(start);
            for (int i = 0; i < size; i++) {
                followAct(deal, purse, purses[i]);
                purse = purses[i];
            }
        }

        int rows() {
            int sum = 0;
            for (int place = 0; place < Standing.PLACES; place++) {
                sum += rowsTo[place];
            }
            return sum;
        }

        int towns() {
            int bits = 0;
            for (int place = 0; place < Standing.PLACES; place++) {
                if (rowsTo[place] > 0) {
                    bits |= 1 << Standing.townOf(place);
                }
            }
            return bits;
        }

        private void followAct(Deal deal, int purse, int purseBehind) {
            Arrays.fill(rowsBehind, 0);
            for (int place = 0; place < Standing.PLACES; place++) {
                for (int act : ACTS) {
                    int after = rowsTo[place] == 0 ? Deal.MAY_NOT : deal.after(purse | place, act);
                    if (after != Deal.MAY_NOT && Standing.withoutPlace(after) == purseBehind) {
                        rowsBehind[Standing.placeOf(after)] += rowsTo[place];
                    }
                }
            }
            int[] gone = rowsTo;
            rowsTo = rowsBehind;
            rowsBehind = gone;
        }
    }

    private static final class Image {
        final int[] standing = new int[MOST_PEOPLE];
        final int[] price = new int[TOWNS];
        boolean kept;
        int peopleCount;
        int actsDone;
    }
}
