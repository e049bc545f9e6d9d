import java.nio.charset.StandardCharsets;

/** What the tests share: asking for answers and counting the wrong ones, and rings to start from. */
abstract class RingTest {
    static final int NONE = GiftRing.NONE;
    static final int LOW = Integer.MIN_VALUE;
    static final int HIGH = Integer.MAX_VALUE;

    private static int wrong = 0;
    private static int asked = 0;
    private static String subject = "";

    /** What the answers that are asked next are about: a promise or a sentence of the document. */
    static void about(String what) {
        subject = what;
    }

    static void due(String what, int got, int want) {
        asked++;
        if (got != want) {
            wrong++;
            System.out.println(subject + ": " + what + " answered " + got + ", due is " + want);
        }
    }

    static void due(String what, boolean got, boolean want) {
        due(what, got ? 1 : 0, want ? 1 : 0);
    }

    static void finish() {
        System.out.println(asked + " answers asked, " + wrong + " not as due");
        if (wrong != 0 || asked == 0) {
            System.exit(1);
        }
    }

    static int feed(GiftRing ring, String text) {
        byte[] bytes = new byte[20];
        byte[] given = text.getBytes(StandardCharsets.ISO_8859_1);
        System.arraycopy(given, 0, bytes, 0, given.length);
        int[] words = new int[5];
        for (int i = 0; i < 20; i++) {
            words[i / 4] = words[i / 4] << 8 | bytes[i] & 255;
        }
        return ring.feed(words[0], words[1], words[2], words[3], words[4]);
    }

    static int tell(GiftRing ring, String text) {
        feed(ring, text.length() > 20 ? text.substring(0, 20) : text);
        if (text.length() > 20) {
            feed(ring, text.substring(20));
        }
        return ring.custom(text.length());
    }

    static void seasons(GiftRing ring, int n) {
        for (int i = 0; i < n; i++) {
            ring.season();
        }
    }

    /** A man on each of the islands told, each a partner of the next one in the list. */
    static GiftRing chain(int... islands) {
        GiftRing ring = new GiftRing();
        for (int island : islands) {
            ring.man(island);
        }
        for (int m = 0; m + 1 < islands.length; m++) {
            ring.partners(m, m + 1);
        }
        return ring;
    }

    /** So many islands with a man on each, who is a partner of those beside him. */
    static GiftRing closedRing(int islands) {
        GiftRing ring = new GiftRing();
        ring.islands(islands);
        for (int m = 0; m < islands; m++) {
            ring.man(m);
        }
        for (int m = 0; m < islands; m++) {
            ring.partners(m, (m + 1) % islands);
        }
        return ring;
    }

    /** Three islands with a man on each, all partners, and debts that are due late. */
    static GiftRing emptyRing() {
        GiftRing ring = closedRing(3);
        tell(ring, "d99");
        return ring;
    }

    /** That, with a necklace that man 0 holds. */
    static GiftRing smallRing() {
        GiftRing ring = emptyRing();
        ring.treasure(0, 10, 0);
        return ring;
    }

    /** Gives treasure 0 of the small ring on, a gift a season, as often as told. */
    static int rounds(GiftRing ring, int gifts) {
        int last = NONE;
        for (int i = 0; i < gifts; i++) {
            int holder = ring.told(0, 2);
            last = ring.give(holder, (holder + 1) % 3, 0);
            ring.season();
        }
        return last;
    }

    /** The empty ring with so many debts, all opened by necklaces 0 to 22 of worth 100. */
    static GiftRing ringOfDebts(int count) {
        GiftRing ring = emptyRing();
        for (int t = 0; t < 23; t++) {
            ring.treasure(0, 100, 0);
        }
        for (int opened = 0; opened < count; opened++) {
            if (opened > 0 && opened % 23 == 0) {
                ring.season();
            }
            int giver = opened / 23 % 3;
            due("opening " + opened, ring.give(giver, (giver + 1) % 3, opened % 23), 0);
        }
        return ring;
    }

    /** Man 1 owes man 2 for armshells and man 0 for necklaces debts of just the needs told. */
    static GiftRing debtor(int[] armshells, int[] necklaces) {
        GiftRing ring = chain(5, 0, 1);
        tell(ring, "p100");
        for (int worth : necklaces) {
            ring.give(0, 1, ring.treasure(0, worth, 0));
        }
        for (int worth : armshells) {
            ring.give(2, 1, ring.treasure(1, worth, 2));
        }
        return ring;
    }

    /** Asks for the closings of man 1 and for all of their row. */
    static void closingRow(GiftRing ring, int want, int... row) {
        due("closings(1)", ring.closings(1), want);
        for (int i = 0; i < row.length; i++) {
            due("closing(" + i + ")", ring.closing(i), row[i]);
        }
        due("closing behind", ring.closing(row.length), NONE);
    }
}
