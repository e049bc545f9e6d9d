import java.util.Arrays;

/**
 * A ring of gifts: islands round a sea, men with partners on the islands beside theirs, and
 * treasures that are given on from man to man, necklaces one way round and armshells the other.
 * No call throws; what can't be done is answered by NONE or false and changes nothing.
 */
public final class GiftRing {
    public static final int NONE = -1;

    private static final int KNOWN_AS_LOST = -2;

    private static final int FEWEST_ISLANDS = 3;
    private static final int MOST_ISLANDS = 8;
    private static final int MOST_MEN = 16;
    private static final int MOST_TREASURES = 24;
    private static final int MOST_DEBTS = 200;
    private static final int MOST_SEASONS = 1000;
    private static final int MOST_WORTH = 999;
    private static final int MOST_HOLDERS_KEPT = 64;
    private static final int BYTES_FED = 20;
    private static final int MOST_BYTES = 40;

    private static final int NECKLACE = 0;
    private static final int ARMSHELL = 1;

    private static final int OPENING = 0;
    private static final int RETURN = 1;
    private static final int MEANWHILE = 2;

    private final Tape tape = new Tape();
    private final Custom customs = new Custom();
    private final Man[] men = new Man[MOST_MEN];
    private final Treasure[] treasures = new Treasure[MOST_TREASURES];
    private final Debts debts = new Debts();
    private final Matching matching = new Matching();
    private final int[] giftsLeft = new int[MOST_MEN];
    private int islandCount = 6;
    private int manCount = 0;
    private int treasureCount = 0;
    private int now = 0;

    public GiftRing() {
    }

    // ---- the tape and custom ----

    public int feed(int a, int b, int c, int d, int e) {
        if (tape.size + BYTES_FED > MOST_BYTES) {
            return NONE;
        }
        tape.append(a);
        tape.append(b);
        tape.append(c);
        tape.append(d);
        tape.append(e);
        return tape.size;
    }

    public int custom(int n) {
        if (n < 0 || n > tape.size) {
            return NONE;
        }
        int fault = customs.read(tape, n);
        tape.size = 0;
        return fault;
    }

    // ---- what there is in the ring ----

    public boolean islands(int n) {
        if (n < FEWEST_ISLANDS || n > MOST_ISLANDS || manCount > 0) {
            return false;
        }
        islandCount = n;
        return true;
    }

    public int man(int island) {
        if (!isIsland(island) || manCount >= MOST_MEN) {
            return NONE;
        }
        men[manCount] = new Man(island);
        manCount++;
        return manCount - 1;
    }

    public boolean partners(int a, int b) {
        Man one = livingMan(a);
        Man other = livingMan(b);
        if (one == null || other == null || one.isPartnerOf(b)) {
            return false;
        }
        if (stepsBetween(one.island, other.island) != 1) {
            return false;
        }
        one.addPartner(b);
        other.addPartner(a);
        return true;
    }

    public int treasure(int kind, int worth, int m) {
        if (kind != NECKLACE && kind != ARMSHELL) {
            return NONE;
        }
        if (worth < 1 || worth > MOST_WORTH) {
            return NONE;
        }
        if (livingMan(m) == null || treasureCount >= MOST_TREASURES) {
            return NONE;
        }
        Treasure made = new Treasure(kind, worth);
        made.comeTo(m, now);
        treasures[treasureCount] = made;
        treasureCount++;
        return treasureCount - 1;
    }

    private boolean isIsland(int island) {
        return island >= 0 && island < islandCount;
    }

    /** The man of that number, living or dead; null if there is none. */
    private Man anyMan(int m) {
        return m >= 0 && m < manCount ? men[m] : null;
    }

    private Man livingMan(int m) {
        Man it = anyMan(m);
        return it != null && it.living ? it : null;
    }

    /** The treasure of that number, lost or not; null if there is none. */
    private Treasure anyTreasure(int t) {
        return t >= 0 && t < treasureCount ? treasures[t] : null;
    }

    private int stepsBetween(int one, int other) {
        int straight = Math.abs(one - other);
        return Math.min(straight, islandCount - straight);
    }

    // ---- gifts ----

    public int give(int m, int n, int t) {
        Treasure gift = anyTreasure(t);
        Man giver = livingMan(m);
        if (gift == null || giver == null || !gift.isHeldBy(m)) {
            return NONE;
        }
        if (!gift.canBeGivenIn(now) || !isOnWay(m, n, gift.kind)) {
            return NONE;
        }
        int manner = settle(m, n, t, gift);
        if (manner != NONE) {
            giver.fame += manner == MEANWHILE ? gift.worth / 2 : gift.worth;
            gift.givenIn = now;
            gift.comeTo(n, now);
        }
        return manner;
    }

    /** Whether b is a partner to whom a treasure of that kind can go from a. */
    private boolean isOnWay(int a, int b, int kind) {
        Man giver = livingMan(a);
        Man receiver = livingMan(b);
        if (giver == null || receiver == null || !giver.isPartnerOf(b)) {
            return false;
        }
        // A step back is taken as a step on by all islands but one, so that one test wraps both.
        int step = kind == NECKLACE ? 1 : islandCount - 1;
        int target = giver.island + step;
        if (target >= islandCount) {
            target -= islandCount;
        }
        return receiver.island == target;
    }

    /** Writes into the debts what the gift does there; NONE if it can't be given so. */
    private int settle(int m, int n, int t, Treasure gift) {
        int otherKind = gift.kind == NECKLACE ? ARMSHELL : NECKLACE;
        Debt closed = debts.greatestWithin(m, n, otherKind, gift.worth);
        if (closed != null) {
            closed.closer = t;
            return RETURN;
        }
        if (debts.haveQuarrel(m, n, now)) {
            return NONE;
        }
        Debt unmet = debts.firstOpen(m, n, otherKind);
        if (unmet != null) {
            unmet.winTime(customs.seasonsWon());
            return MEANWHILE;
        }
        if (debts.isFull()) {
            return NONE;
        }
        Debt opened = new Debt(n, m, t, gift.kind);
        opened.need = customs.needFor(gift.worth);
        opened.due = now + customs.seasonsTillDue();
        debts.append(opened);
        return OPENING;
    }

    // ---- what goes by ----

    public int season() {
        if (now >= MOST_SEASONS) {
            return NONE;
        }
        now++;
        for (int t = 0; t < treasureCount; t++) {
            Treasure it = treasures[t];
            Man holder = anyMan(it.holder);
            if (holder != null && !it.lost && now - it.cameIn > customs.seasonsToHold()) {
                holder.fame -= (it.worth + 9) / 10;
            }
        }
        return now;
    }

    public boolean dies(int m, int heir) {
        Man dead = livingMan(m);
        Man next = livingMan(heir);
        if (dead == null || next == null || m == heir || dead.island != next.island) {
            return false;
        }
        dead.living = false;
        passTreasures(m, heir);
        debts.pass(m, heir);
        passPartners(m, heir);
        return true;
    }

    private void passTreasures(int m, int heir) {
        for (int t = 0; t < treasureCount; t++) {
            if (treasures[t].isHeldBy(m)) {
                treasures[t].comeTo(heir, now);
            }
        }
    }

    private void passPartners(int m, int heir) {
        for (int other = 0; other < manCount; other++) {
            if (men[other].isPartnerOf(m)) {
                men[other].dropPartner(m);
                men[other].addPartner(heir);
                men[m].dropPartner(other);
                men[heir].addPartner(other);
            }
        }
    }

    public boolean lost(int t) {
        Treasure it = anyTreasure(t);
        if (it == null || it.lost) {
            return false;
        }
        it.lost = true;
        it.lostIn = now;
        return true;
    }

    // ---- news ----

    public int known(int island, int t) {
        Treasure it = anyTreasure(t);
        if (it == null || !isIsland(island)) {
            return NONE;
        }
        if (it.lost && hasCome(it.lostIn, it.holder, island)) {
            return KNOWN_AS_LOST;
        }
        for (int i = it.holdings - 1; i >= 0; i--) {
            if (hasCome(it.heldFrom[i], it.heldBy[i], island)) {
                return it.heldBy[i];
            }
        }
        return NONE;
    }

    /** Whether what happened in that season where man m is at home is known on the island now. */
    private boolean hasCome(int season, int m, int island) {
        Man source = anyMan(m);
        return source != null && season + stepsBetween(source.island, island) <= now;
    }

    public int way(int t, int i) {
        Treasure it = anyTreasure(t);
        if (it == null || i < 0 || i >= it.holdersKept()) {
            return NONE;
        }
        return it.heldBy[i];
    }

    // ---- closings ----

    public int closings(int m) {
        if (livingMan(m) == null) {
            return NONE;
        }
        matching.clear();
        for (int t = 0; t < treasureCount; t++) {
            Treasure it = treasures[t];
            if (it.isHeldBy(m) && it.canBeGivenIn(now)) {
                matching.addTreasure(t, it);
            }
        }
        for (int d = 0; d < debts.size; d++) {
            Debt it = debts.all[d];
            if (it.isOpen() && it.debtor == m) {
                matching.addDebt(it);
            }
        }
        return matching.solve();
    }

    public int closing(int i) {
        if (i < 0 || i >= matching.debtCount) {
            return NONE;
        }
        return matching.row[i];
    }

    // ---- how soon a treasure can come to a man ----

    public int soonest(int t, int m) {
        Treasure it = anyTreasure(t);
        if (it == null || it.lost || livingMan(m) == null || anyMan(it.holder) == null) {
            return NONE;
        }
        measureGiftsTo(m, it.kind);
        return giftsLeft[it.holder];
    }

    public int through(int t, int m, int i) {
        int gifts = soonest(t, m);
        Treasure it = anyTreasure(t);
        if (gifts == NONE || it == null || i < 0 || i > gifts) {
            return NONE;
        }
        int at = it.holder;
        for (int step = 0; step < i; step++) {
            at = nextOnWay(at, it.kind);
        }
        return at;
    }

    /** Fills giftsLeft with how many gifts each man is from the target, NONE if there is no way. */
    private void measureGiftsTo(int target, int kind) {
        Arrays.fill(giftsLeft, NONE);
        giftsLeft[target] = 0;
        for (int gifts = 1; gifts < manCount; gifts++) {
            for (int a = 0; a < manCount; a++) {
                if (giftsLeft[a] == NONE && firstAt(a, kind, gifts - 1) != NONE) {
                    giftsLeft[a] = gifts;
                }
            }
        }
    }

    /** The first man to whom a can give who is so many gifts from the target; NONE if none is. */
    private int firstAt(int a, int kind, int gifts) {
        for (int b = 0; b < manCount; b++) {
            if (giftsLeft[b] == gifts && isOnWay(a, b, kind)) {
                return b;
            }
        }
        return NONE;
    }

    private int nextOnWay(int a, int kind) {
        return a < 0 || a >= manCount ? NONE : firstAt(a, kind, giftsLeft[a] - 1);
    }

    // ---- what can be looked at ----

    public int look(int m, int what) {
        Man it = anyMan(m);
        if (it == null) {
            return NONE;
        }
        switch (what) {
            case 0:
                return it.island;
            case 1:
                return it.living ? 1 : 0;
            case 2:
                return it.fame;
            case 3:
                return treasuresHeldBy(m);
            case 4:
                return debts.openOnes(m, NONE);
            case 5:
                return debts.openOnes(NONE, m);
            case 6:
                return debts.lateOnesOf(m, now);
            case 7:
                return Integer.bitCount(it.partnerBits);
            default:
                return NONE;
        }
    }

    private int treasuresHeldBy(int m) {
        int held = 0;
        for (int t = 0; t < treasureCount; t++) {
            if (treasures[t].isHeldBy(m)) {
                held++;
            }
        }
        return held;
    }

    public int told(int t, int what) {
        Treasure it = anyTreasure(t);
        if (it == null) {
            return NONE;
        }
        switch (what) {
            case 0:
                return it.kind;
            case 1:
                return it.worth;
            case 2:
                return it.lost ? NONE : it.holder;
            case 3:
                return it.cameIn;
            case 4:
                return it.holdersKept();
            default:
                return NONE;
        }
    }

    public int debt(int d, int what) {
        if (d < 0 || d >= debts.size) {
            return NONE;
        }
        Debt it = debts.all[d];
        switch (what) {
            case 0:
                return it.debtor;
            case 1:
                return it.creditor;
            case 2:
                return it.kind;
            case 3:
                return it.need;
            case 4:
                return it.due;
            case 5:
                return it.stateIn(now);
            case 6:
                return it.opener;
            case 7:
                return it.closer;
            default:
                return NONE;
        }
    }

    public int quarrel(int a, int b) {
        if (anyMan(a) == null || anyMan(b) == null || a == b) {
            return NONE;
        }
        return debts.haveQuarrel(a, b, now) ? 1 : 0;
    }

    public int count(int what) {
        switch (what) {
            case 0:
                return islandCount;
            case 1:
                return manCount;
            case 2:
                return livingMen();
            case 3:
                return treasureCount;
            case 4:
                return lostTreasures();
            case 5:
                return debts.size;
            case 6:
                return debts.openOnes(NONE, NONE);
            case 7:
                return now;
            case 8:
                return tape.size;
            case 10:
            case 11:
            case 12:
            case 13:
                return customs.term(what - 10);
            default:
                return NONE;
        }
    }

    private int livingMen() {
        int living = 0;
        for (int m = 0; m < manCount; m++) {
            if (men[m].living) {
                living++;
            }
        }
        return living;
    }

    private int lostTreasures() {
        int gone = 0;
        for (int t = 0; t < treasureCount; t++) {
            if (treasures[t].lost) {
                gone++;
            }
        }
        return gone;
    }

    /** The bytes that were fed and not yet read as custom. */
    private static final class Tape {
        static final int END = -1;

        final int[] bytes = new int[MOST_BYTES];
        int size = 0;

        void append(int word) {
            for (int shift = 24; shift >= 0 && size < bytes.length; shift -= 8) {
                bytes[size] = (word >>> shift) & 255;
                size++;
            }
        }

        /** The byte at the place in a text of the first n bytes; END behind them. */
        int byteAt(int place, int n) {
            return place >= 0 && place < n && place < size ? bytes[place] : END;
        }
    }

    /** The four terms of custom, in the order of LETTERS, and how they are read from a text. */
    private static final class Custom {
        static final String LETTERS = "pdkh";
        static final int[] LEAST = {1, 1, 0, 0};
        static final int[] GREATEST = {300, 99, 99, 99};
        static final int[] AT_FIRST = {80, 4, 2, 6};
        static final int MOST_DIGITS = 4;

        static final int NO_LETTER = 1;
        static final int NO_DIGIT = 2;
        static final int FIFTH_DIGIT = 3;
        static final int WRONG_NUMBER = 4;
        static final int NO_SEMICOLON = 5;

        final int[] terms = AT_FIRST.clone();
        /** Apart from terms, since a fault late in a text must leave these as they were. */
        final int[] draft = new int[AT_FIRST.length];

        int term(int which) {
            return which >= 0 && which < terms.length ? terms[which] : NONE;
        }

        int needFor(int worth) {
            return (terms[0] * worth + 99) / 100;
        }

        int seasonsTillDue() {
            return terms[1];
        }

        int seasonsWon() {
            return terms[2];
        }

        int seasonsToHold() {
            return terms[3];
        }

        /** Takes the first n bytes as custom: 0, or 100 times the fault's number and its place. */
        int read(Tape tape, int n) {
            System.arraycopy(AT_FIRST, 0, draft, 0, AT_FIRST.length);
            int place = 0;
            while (place <= n) {
                int digits = digitsFrom(tape, place + 1, n);
                int fault = readClause(tape, place, digits, n);
                if (fault != 0) {
                    return fault;
                }
                // A semicolon as the last byte leads to place n, where a letter is missing then.
                place += 1 + digits + 1;
            }
            System.arraycopy(draft, 0, terms, 0, terms.length);
            return 0;
        }

        private int readClause(Tape tape, int place, int digits, int n) {
            int which = termOf(tape.byteAt(place, n));
            if (which == NONE) {
                return faultAt(NO_LETTER, place);
            }
            if (digits == 0) {
                return faultAt(NO_DIGIT, place + 1);
            }
            if (digits > MOST_DIGITS) {
                return faultAt(FIFTH_DIGIT, place + 1 + MOST_DIGITS);
            }
            int number = numberAt(tape, place + 1, digits, n);
            if (number < LEAST[which] || number > GREATEST[which]) {
                return faultAt(WRONG_NUMBER, place + 1);
            }
            int behind = tape.byteAt(place + 1 + digits, n);
            if (behind != ';' && behind != Tape.END) {
                return faultAt(NO_SEMICOLON, place + 1 + digits);
            }
            draft[which] = number;
            return 0;
        }

        private static int faultAt(int fault, int place) {
            return 100 * fault + place;
        }

        private static int termOf(int letter) {
            for (int which = 0; which < LETTERS.length(); which++) {
                if (LETTERS.charAt(which) == letter) {
                    return which;
                }
            }
            return NONE;
        }

        private static int digitsFrom(Tape tape, int start, int n) {
            int digits = 0;
            while (digits <= MOST_DIGITS && isDigit(tape.byteAt(start + digits, n))) {
                digits++;
            }
            return digits;
        }

        private static boolean isDigit(int b) {
            return b >= '0' && b <= '9';
        }

        private static int numberAt(Tape tape, int start, int digits, int n) {
            int number = 0;
            for (int i = 0; i < digits; i++) {
                number = 10 * number + tape.byteAt(start + i, n) - '0';
            }
            return number;
        }
    }

    private static final class Man {
        final int island;
        boolean living = true;
        int fame = 0;
        /** Bit b is set if man b is his partner. */
        int partnerBits = 0;

        Man(int island) {
            this.island = island;
        }

        boolean isPartnerOf(int m) {
            return (partnerBits & 1 << m) != 0;
        }

        void addPartner(int m) {
            partnerBits |= 1 << m;
        }

        void dropPartner(int m) {
            partnerBits &= ~(1 << m);
        }
    }

    private static final class Treasure {
        /** Gifts end at the holders that are kept, but each man can still die once behind them. */
        static final int MOST_HOLDINGS = MOST_HOLDERS_KEPT + MOST_MEN;

        final int kind;
        final int worth;
        /** Stays the last one when it is lost: the news of it starts from his island. */
        int holder = NONE;
        int cameIn = 0;
        /** Apart from cameIn, since an heir gets it in a season in which it may have been given. */
        int givenIn = NONE;
        boolean lost = false;
        int lostIn = NONE;
        final int[] heldBy = new int[MOST_HOLDINGS];
        final int[] heldFrom = new int[MOST_HOLDINGS];
        int holdings = 0;

        Treasure(int kind, int worth) {
            this.kind = kind;
            this.worth = worth;
        }

        void comeTo(int m, int season) {
            holder = m;
            cameIn = season;
            if (holdings < MOST_HOLDINGS) {
                heldBy[holdings] = m;
                heldFrom[holdings] = season;
                holdings++;
            }
        }

        boolean isHeldBy(int m) {
            return !lost && holder == m;
        }

        boolean canBeGivenIn(int season) {
            return !lost && givenIn != season && holdings < MOST_HOLDERS_KEPT;
        }

        int holdersKept() {
            return Math.min(holdings, MOST_HOLDERS_KEPT);
        }
    }

    private static final class Debt {
        int debtor;
        int creditor;
        final int opener;
        final int kind;
        int need = 0;
        int due = 0;
        int closer = NONE;
        boolean timeWon = false;

        Debt(int debtor, int creditor, int opener, int kind) {
            this.debtor = debtor;
            this.creditor = creditor;
            this.opener = opener;
            this.kind = kind;
        }

        boolean isOpen() {
            return closer == NONE;
        }

        boolean isLateIn(int season) {
            return isOpen() && season > due;
        }

        int stateIn(int season) {
            if (!isOpen()) {
                return 1;
            }
            return isLateIn(season) ? 2 : 0;
        }

        boolean isBetween(int from, int to) {
            return debtor == from && creditor == to;
        }

        void winTime(int seasons) {
            if (!timeWon) {
                timeWon = true;
                due += seasons;
            }
        }
    }

    private static final class Debts {
        final Debt[] all = new Debt[MOST_DEBTS];
        int size = 0;

        boolean isFull() {
            return size >= MOST_DEBTS;
        }

        void append(Debt opened) {
            if (!isFull()) {
                all[size] = opened;
                size++;
            }
        }

        /** The open one of the greatest need that is not above the worth, the first of like ones. */
        Debt greatestWithin(int from, int to, int kind, int worth) {
            Debt greatest = null;
            for (int d = 0; d < size; d++) {
                Debt it = all[d];
                if (isOpenFor(it, from, to, kind) && it.need <= worth
                        && (greatest == null || it.need > greatest.need)) {
                    greatest = it;
                }
            }
            return greatest;
        }

        Debt firstOpen(int from, int to, int kind) {
            for (int d = 0; d < size; d++) {
                if (isOpenFor(all[d], from, to, kind)) {
                    return all[d];
                }
            }
            return null;
        }

        private static boolean isOpenFor(Debt it, int from, int to, int kind) {
            return it.isOpen() && it.kind == kind && it.isBetween(from, to);
        }

        boolean haveQuarrel(int a, int b, int season) {
            for (int d = 0; d < size; d++) {
                Debt it = all[d];
                if (it.isLateIn(season) && (it.isBetween(a, b) || it.isBetween(b, a))) {
                    return true;
                }
            }
            return false;
        }

        /** Closed ones go to the heir too: the document leaves none of a dead man's debts out. */
        void pass(int m, int heir) {
            for (int d = 0; d < size; d++) {
                Debt it = all[d];
                if (it.debtor == m) {
                    it.debtor = heir;
                }
                if (it.creditor == m) {
                    it.creditor = heir;
                }
            }
        }

        /** How many open ones the one owes to the other; NONE stands for anybody. */
        int openOnes(int from, int to) {
            int open = 0;
            for (int d = 0; d < size; d++) {
                Debt it = all[d];
                if (it.isOpen() && (from == NONE || it.debtor == from) && (to == NONE || it.creditor == to)) {
                    open++;
                }
            }
            return open;
        }

        int lateOnesOf(int m, int season) {
            int late = 0;
            for (int d = 0; d < size; d++) {
                if (all[d].isLateIn(season) && all[d].debtor == m) {
                    late++;
                }
            }
            return late;
        }
    }

    /**
     * Which treasures of a man would close which of his debts. The best ways are weighed from the
     * last debt back, for every set of treasures that the debts before it may have used.
     */
    private static final class Matching {
        static final int MOST_CHOSEN_TREASURES = 8;
        static final int MOST_CHOSEN_DEBTS = 6;
        /** Above the worth of six treasures in all, so that one debt more outweighs any worth. */
        static final int ONE_DEBT = 10000;

        final int[] numbers = new int[MOST_CHOSEN_TREASURES];
        final int[] kinds = new int[MOST_CHOSEN_TREASURES];
        final int[] worths = new int[MOST_CHOSEN_TREASURES];
        int chosenTreasures = 0;
        final int[] debtKinds = new int[MOST_CHOSEN_DEBTS];
        final int[] needs = new int[MOST_CHOSEN_DEBTS];
        int debtCount = 0;
        final int[][] best = new int[MOST_CHOSEN_DEBTS + 1][1 << MOST_CHOSEN_TREASURES];
        final int[] row = new int[MOST_CHOSEN_DEBTS];

        void clear() {
            chosenTreasures = 0;
            debtCount = 0;
        }

        void addTreasure(int number, Treasure it) {
            if (chosenTreasures < MOST_CHOSEN_TREASURES) {
                numbers[chosenTreasures] = number;
                kinds[chosenTreasures] = it.kind;
                worths[chosenTreasures] = it.worth;
                chosenTreasures++;
            }
        }

        void addDebt(Debt it) {
            if (debtCount < MOST_CHOSEN_DEBTS) {
                debtKinds[debtCount] = it.kind;
                needs[debtCount] = it.need;
                debtCount++;
            }
        }

        /** Writes the row of treasures by debts: how many debts would be closed. */
        int solve() {
            weighAll();
            int closed = 0;
            int used = 0;
            for (int d = 0; d < debtCount; d++) {
                int i = choiceFor(d, used);
                row[d] = NONE;
                if (i != NONE) {
                    row[d] = numbers[i];
                    used |= 1 << i;
                    closed++;
                }
            }
            return closed;
        }

        private void weighAll() {
            int sets = 1 << chosenTreasures;
            Arrays.fill(best[debtCount], 0);
            for (int d = debtCount - 1; d >= 0; d--) {
                for (int used = 0; used < sets; used++) {
                    best[d][used] = weigh(d, used);
                }
            }
        }

        private int weigh(int d, int used) {
            int greatest = best[d + 1][used];
            for (int i = 0; i < chosenTreasures; i++) {
                if (canClose(i, d, used)) {
                    greatest = Math.max(greatest, weightWith(i, d, used));
                }
            }
            return greatest;
        }

        private boolean canClose(int i, int d, int used) {
            return (used & 1 << i) == 0 && kinds[i] != debtKinds[d] && needs[d] <= worths[i];
        }

        private int weightWith(int i, int d, int used) {
            return ONE_DEBT - worths[i] + best[d + 1][used | 1 << i];
        }

        /** The first treasure that a best way can take here: having none counts as the greatest. */
        private int choiceFor(int d, int used) {
            for (int i = 0; i < chosenTreasures; i++) {
                if (canClose(i, d, used) && weightWith(i, d, used) == best[d][used]) {
                    return i;
                }
            }
            return NONE;
        }
    }
}
