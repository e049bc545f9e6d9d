/** The document's sentences that bound the tape and custom, a test for each. */
public final class BoundsOfCustom extends RingTest {
    private static final String LETTERS = "pdkh";
    private static final int[] LEAST = {1, 1, 0, 0};
    private static final int[] GREATEST = {300, 99, 99, 99};
    private static final int[] AT_FIRST = {80, 4, 2, 6};

    private static void termsAre(GiftRing ring, int p, int d, int k, int h) {
        due("p", ring.count(10), p);
        due("d", ring.count(11), d);
        due("k", ring.count(12), k);
        due("h", ring.count(13), h);
    }

    /** Tells the text where other terms stand, which a fault must leave and no fault replaces. */
    private static void faultOf(String text, int want) {
        GiftRing ring = new GiftRing();
        tell(ring, "p11;d12;k13;h14");
        due("custom of '" + text + "'", tell(ring, text), want);
        due("count(8) after '" + text + "'", ring.count(8), 0);
        if (want != 0) {
            termsAre(ring, 11, 12, 13, 14);
        }
    }

    private static void fortyBytesAtMost() {
        about("NONE if that would be more than 40");
        GiftRing ring = new GiftRing();
        due("count(8)", ring.count(8), 0);
        due("feed", feed(ring, "p1;p2;p3;p4;p5;p6;p7"), 20);
        due("count(8)", ring.count(8), 20);
        due("feed", feed(ring, ";p8;d9"), 40);
        due("count(8)", ring.count(8), 40);
        due("one more", feed(ring, "h1"), NONE);
        due("count(8)", ring.count(8), 40);
        due("custom(26) of what was there", ring.custom(26), 0);
        termsAre(ring, 8, 9, 2, 6);
        due("count(8)", ring.count(8), 0);
        due("feed of an empty tape", feed(ring, "p1"), 20);
    }

    private static void theHighestByteFirst() {
        about("Twenty bytes come behind the tape, the highest of each int first");
        GiftRing ring = new GiftRing();
        int p = 'p' << 24 | '1' << 16 | '2' << 8 | ';';
        int d = 'd' << 24 | '1' << 16 | '3' << 8 | ';';
        int k = 'k' << 24 | '1' << 16 | '4' << 8 | ';';
        int h = 'h' << 24 | '1' << 16 | '5' << 8 | ';';
        int end = 'd' << 24 | '1' << 16 | '6' << 8;
        due("feed", ring.feed(p, d, k, h, end), 20);
        due("custom(19)", ring.custom(19), 0);
        termsAre(ring, 12, 16, 14, 15);
        ring.feed(p, d, k, h, end);
        due("the twentieth byte", ring.custom(20), 519);
        ring.feed(-1, -1, -1, -1, -1);
        due("bytes of 255", ring.custom(20), 100);
        ring.feed(p | 0x80000000, 0, 0, 0, 0);
        due("p and 128", ring.custom(3), 100);
        ring.feed(p | 0xbb, 0, 0, 0, 0);
        due("; and 128", ring.custom(4), 503);
        ring.feed(p | 0x00800000, 0, 0, 0, 0);
        due("1 and 128", ring.custom(3), 201);
    }

    private static void theTapeHasNotSoMany() {
        about("NONE: it has not so many (the tape stays)");
        GiftRing ring = new GiftRing();
        due("custom(1) of an empty tape", ring.custom(1), NONE);
        due("custom(0) of an empty tape", ring.custom(0), 100);
        feed(ring, "p7;d7;k7;h7;p1;d1;k1");
        for (int n : new int[] {21, 22, 40, 41, -1, -20, HIGH, LOW}) {
            due("custom(" + n + ")", ring.custom(n), NONE);
            due("count(8)", ring.count(8), 20);
        }
        termsAre(ring, 80, 4, 2, 6);
        due("custom(20)", ring.custom(20), 0);
        termsAre(ring, 1, 1, 1, 7);
        due("count(8)", ring.count(8), 0);
        due("custom(20) of what was read", ring.custom(20), NONE);
        feed(ring, "p7;d7;k7;h7;p1;d1;k1");
        feed(ring, ";h1;p2;d2;k2;h2;p3;d");
        due("custom(41)", ring.custom(41), NONE);
        due("custom(40)", ring.custom(40), 240);
        due("count(8)", ring.count(8), 0);
    }

    private static void theFirstBytesAlone() {
        about("The first n bytes of the tape (empty then)");
        String[] texts = {"p12", "p1;d5", "p00011", "p1x", "p1;;", "d1;p301", "p30", "p3000"};
        int[] n = {2, 2, 5, 2, 2, 6, 2, 4};
        int[] p = {1, 1, 1, 1, 1, 30, 3, 300};
        for (int i = 0; i < texts.length; i++) {
            GiftRing ring = new GiftRing();
            feed(ring, texts[i]);
            due("custom(" + n[i] + ") of '" + texts[i] + "'", ring.custom(n[i]), 0);
            due("p", ring.count(10), p[i]);
            due("what is behind is gone", ring.count(8), 0);
        }
        GiftRing ring = new GiftRing();
        feed(ring, "p5");
        due("custom(0): the end, too", ring.custom(0), 100);
        due("the tape is empty then", ring.count(8), 0);
        feed(ring, "p5");
        due("custom(1): the end", ring.custom(1), 201);
        feed(ring, "p5;d5");
        due("custom(3): the end", ring.custom(3), 103);
        termsAre(ring, 80, 4, 2, 6);
    }

    private static void numbersAtTheirBounds() {
        about("p .. (1 to 300 ..), d .. (1 to 99 ..), k .. (0 to 99 ..), h .. (0 to 99 ..)");
        for (int which = 0; which < 4; which++) {
            int least = LEAST[which];
            int greatest = GREATEST[which];
            int[] numbers = {least - 1, least, least + 1, greatest - 1, greatest, greatest + 1, 999, 1000, 9999};
            for (int number : numbers) {
                if (number < 0) {
                    continue;
                }
                boolean can = number >= least && number <= greatest;
                GiftRing ring = new GiftRing();
                String text = LETTERS.charAt(which) + String.valueOf(number);
                due("custom of " + text, tell(ring, text), can ? 0 : 401);
                due("then", ring.count(10 + which), can ? number : AT_FIRST[which]);
            }
        }
    }

    private static void oneToFourDigits() {
        about("a number of one to four digits");
        faultOf("p", 201);
        faultOf("p1", 0);
        faultOf("p01", 0);
        faultOf("p001", 0);
        faultOf("p0001", 0);
        faultOf("p00001", 305);
        faultOf("p000001", 305);
        faultOf("p0300", 0);
        faultOf("p0301", 401);
        faultOf("k0000", 0);
        faultOf("k00000", 305);
        faultOf("h0;k", 204);
        faultOf("h0;k00000", 308);
        faultOf("p9;d0009;k00010", 314);
    }

    private static void whatNoClauseTells() {
        about("What no CLAUSE tells is as at first");
        GiftRing ring = new GiftRing();
        due("all four", tell(ring, "p11;d12;k13;h14"), 0);
        termsAre(ring, 11, 12, 13, 14);
        due("d alone", tell(ring, "d5"), 0);
        termsAre(ring, 80, 5, 2, 6);
        due("h alone", tell(ring, "h5"), 0);
        termsAre(ring, 80, 4, 2, 5);
        due("k alone", tell(ring, "k5"), 0);
        termsAre(ring, 80, 4, 5, 6);
        due("p alone", tell(ring, "p5"), 0);
        termsAre(ring, 5, 4, 2, 6);
    }

    private static void theLaterOneCounts() {
        about("the later one of a letter counts");
        GiftRing ring = new GiftRing();
        due("two", tell(ring, "p5;p4"), 0);
        due("p", ring.count(10), 4);
        due("others between", tell(ring, "h9;k1;h8;d2;h0"), 0);
        termsAre(ring, 80, 2, 1, 0);
        due("an earlier one that can't be", tell(ring, "p301;p4"), 401);
        due("a later one that can't be", tell(ring, "p4;p301"), 404);
        termsAre(ring, 80, 2, 1, 0);
    }

    private static void noSuchLetter() {
        about("1 no such letter there (the end, too)");
        faultOf("", 100);
        faultOf(";", 100);
        faultOf("1", 100);
        for (char letter = 0; letter < 256; letter++) {
            String text = letter + "9";
            faultOf(text, LETTERS.indexOf(letter) >= 0 ? 0 : 100);
        }
        faultOf("p9;", 103);
        faultOf("p9;;", 103);
        faultOf("p9;x", 103);
        faultOf("p9; d9", 103);
        faultOf("p9;d9;", 106);
        faultOf(" p9", 100);
    }

    private static void noDigit() {
        about("2 no digit there");
        for (char c = 0; c < 256; c++) {
            faultOf("d" + c, c >= '1' && c <= '9' ? 0 : c == '0' ? 401 : 201);
        }
        faultOf("p;", 201);
        faultOf("p;d9", 201);
        faultOf("p 9", 201);
        faultOf("p-9", 201);
        faultOf("p+9", 201);
        faultOf("pp9", 201);
        faultOf("p9;d;k9", 204);
    }

    private static void aFifthDigit() {
        about("3 a fifth digit, at it");
        faultOf("p99999", 305);
        faultOf("p00000", 305);
        faultOf("p10000x", 305);
        faultOf("p1;d12345", 308);
        faultOf("p1;d1234", 404);
        faultOf("p1234", 401);
        faultOf("p0001;d00001", 311);
    }

    private static void aNumberThatItCantBe() {
        about("4 a number that it can't be, at its first digit (asked when its digits end)");
        faultOf("p0", 401);
        faultOf("p0x", 401);
        faultOf("p301 ", 401);
        faultOf("p301;", 401);
        faultOf("d100;x", 401);
        faultOf("k1;h100", 404);
        faultOf("k99;h99;p300;d99", 0);
        faultOf("k99;h99;p300;d100", 414);
        faultOf("p0000", 401);
        faultOf("p9999", 401);
        faultOf("p3000", 401);
    }

    private static void somethingElseBehindAClause() {
        about("5 something else than ; or the end behind a CLAUSE");
        for (char c = 0; c < 256; c++) {
            if (c < '0' || c > '9') {
                faultOf("d1" + c + "d2", c == ';' ? 0 : 502);
                faultOf("d0001" + c, c == ';' ? 106 : 505);
            }
        }
        faultOf("d1 ", 502);
        faultOf("d1 ;k1", 502);
        faultOf("d1;k1 ;h1", 505);
        faultOf("p300x", 504);
        faultOf("p0300x", 505);
    }

    private static void theFirstFromTheLeft() {
        about("FAULTS, the first from the left");
        faultOf("p301;x", 401);
        faultOf("p1x;p301", 502);
        faultOf("x;p301", 100);
        faultOf("p;p301", 201);
        faultOf("p1;d1;k1;h1;q", 112);
        faultOf("p1;d1;k1;h1;p12345;q", 317);
    }

    private static void placesUpToForty() {
        about("100 times its number and its place");
        String full = "p1;d1;k1;h1;p2;d2;k2;h2;p3;d3;k3;h3;";
        faultOf(full + "p4", 0);
        faultOf(full + "p400", 437);
        faultOf(full + "p4;", 139);
        faultOf(full + "p4;d", 240);
        faultOf(full + "p30x", 539);
        faultOf(full + "p4 ;", 538);
        faultOf(full + "d099", 0);
        faultOf(full + "d100", 437);
        faultOf(full.substring(1), 100);
        faultOf("p0001;p0001;p0001;p0001;p0001;p0001;p01;", 140);
        faultOf("p0001;p0001;p0001;p0001;p0001;p01;p00011", 339);
    }

    /** The end of the tape is the end of the text, though no byte of it says so. */
    private static void theEndOfAFullTape() {
        about("; or the end behind a CLAUSE");
        String full = "p1;d1;k1;h1;p2;d2;k2;h2;p3;d3;k3;h3;h0";
        GiftRing ring = new GiftRing();
        due("40 bytes", tell(ring, full + "99"), 0);
        termsAre(ring, 3, 3, 3, 99);
        due("40 bytes", tell(ring, full + "09"), 0);
        termsAre(ring, 3, 3, 3, 9);
        due("40 bytes", tell(ring, full.substring(0, 36) + "h007"), 0);
        termsAre(ring, 3, 3, 3, 7);
        due("20 bytes", tell(ring, "p1;d1;k1;h1;p0002;d5"), 0);
        termsAre(ring, 2, 5, 1, 1);
        due("21 bytes", tell(ring, "p1;d1;k1;h1;p0002;d54"), 0);
        termsAre(ring, 2, 54, 1, 1);
    }

    private static void customIsAsItIsThen() {
        about("are CUSTOM from now on");
        GiftRing ring = chain(0, 1);
        ring.treasure(0, 100, 0);
        ring.treasure(0, 100, 0);
        ring.treasure(0, 100, 0);
        due("an opening by custom at first", ring.give(0, 1, 0), 0);
        feed(ring, "p10;d9");
        due("an opening before it is read", ring.give(0, 1, 1), 0);
        due("read", ring.custom(6), 0);
        due("an opening then", ring.give(0, 1, 2), 0);
        int[] needs = {80, 80, 10};
        int[] dues = {4, 4, 9};
        for (int d = 0; d < 3; d++) {
            due("debt(" + d + ", 3)", ring.debt(d, 3), needs[d]);
            due("debt(" + d + ", 4)", ring.debt(d, 4), dues[d]);
        }
    }

    public static void main(String[] args) {
        fortyBytesAtMost();
        theHighestByteFirst();
        theTapeHasNotSoMany();
        theFirstBytesAlone();
        numbersAtTheirBounds();
        oneToFourDigits();
        whatNoClauseTells();
        theLaterOneCounts();
        noSuchLetter();
        noDigit();
        aFifthDigit();
        aNumberThatItCantBe();
        somethingElseBehindAClause();
        theFirstFromTheLeft();
        placesUpToForty();
        theEndOfAFullTape();
        customIsAsItIsThen();
        finish();
    }
}
