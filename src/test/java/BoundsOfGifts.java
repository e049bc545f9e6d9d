/** The document's sentences that bound gifts, debts, quarrels and fame, a test for each. */
public final class BoundsOfGifts extends RingTest {
    /** Men 0 and 1, partners side by side; 0 gave 1 necklaces of those worths, which are the needs. */
    private static GiftRing openings(int... worths) {
        GiftRing ring = chain(0, 1);
        tell(ring, "p100");
        for (int worth : worths) {
            due("an opening", ring.give(0, 1, ring.treasure(0, worth, 0)), 0);
        }
        return ring;
    }

    /** Man 1 gives man 0 a new armshell of that worth. */
    private static int giveBack(GiftRing ring, int worth) {
        return ring.give(1, 0, ring.treasure(1, worth, 1));
    }

    private static void aHolderGives() {
        about("A GIFT: a HOLDER gives a TREASURE to a PARTNER");
        GiftRing ring = chain(0, 1, 2);
        ring.man(1);
        ring.man(0);
        ring.treasure(0, 10, 0);
        due("who doesn't hold it", ring.give(1, 2, 0), NONE);
        due("another one of his island", ring.give(4, 1, 0), NONE);
        due("no partner of the next island", ring.give(0, 3, 0), NONE);
        due("give", ring.give(0, 1, 0), 0);
        ring.season();
        due("who held it", ring.give(0, 1, 0), NONE);
        due("who holds it", ring.give(1, 2, 0), 0);
        ring.season();
        due("lost", ring.lost(0), true);
        due("who held it last", ring.give(2, 1, 0), NONE);
    }

    private static void noSuchOnes() {
        about("NONE: he can't (no such ones)");
        GiftRing ring = chain(0, 1);
        ring.treasure(0, 10, 0);
        for (int bad : new int[] {-1, 2, 15, 16, 32, 33, HIGH, LOW}) {
            due("give(" + bad + ", 1, 0)", ring.give(bad, 1, 0), NONE);
            due("give(0, " + bad + ", 0)", ring.give(0, bad, 0), NONE);
        }
        for (int bad : new int[] {-1, 1, 23, 24, HIGH, LOW}) {
            due("give(0, 1, " + bad + ")", ring.give(0, 1, bad), NONE);
        }
        due("to himself", ring.give(0, 0, 0), NONE);
        due("give", ring.give(0, 1, 0), 0);
    }

    private static void theDeadGiveAndGetNothing() {
        about("PARTNERS are two LIVING MEN");
        GiftRing ring = chain(0, 1, 2);
        ring.man(1);
        ring.treasure(0, 10, 0);
        ring.treasure(0, 10, 1);
        due("dies(1, 3)", ring.dies(1, 3), true);
        due("to a dead man", ring.give(0, 1, 0), NONE);
        due("by a dead man", ring.give(1, 2, 1), NONE);
        due("to his heir", ring.give(0, 3, 0), 0);
        due("by his heir", ring.give(3, 2, 1), 0);
    }

    private static void onceInASeason() {
        about("a TREASURE is given once in a SEASON at most");
        GiftRing ring = closedRing(3);
        ring.man(1);
        ring.treasure(0, 100, 0);
        due("made in this season, the first one", ring.give(0, 1, 0), 0);
        due("once more", ring.give(1, 2, 0), NONE);
        due("season", ring.season(), 1);
        due("in the next season", ring.give(1, 2, 0), 0);
        due("once more", ring.give(2, 0, 0), NONE);
        ring.treasure(1, 100, 1);
        due("a return", ring.give(1, 0, 1), 1);
        due("after a return", ring.give(0, 2, 1), NONE);
        ring.treasure(1, 1, 2);
        due("meanwhile", ring.give(2, 1, 2), 2);
        due("after a gift meanwhile", ring.give(1, 0, 2), NONE);
        ring.season();
        due("in the next season", ring.give(0, 2, 1), 0);
        due("in the next season", ring.give(1, 0, 2), 0);
    }

    private static void aRefusedGiftIsNotGiven() {
        about("a TREASURE is given once in a SEASON at most (a refused one is not given)");
        GiftRing ring = openings(100);
        ring.man(0);
        ring.partners(2, 1);
        seasons(ring, 5);
        int t = ring.treasure(1, 99, 1);
        due("in a quarrel", ring.give(1, 0, t), NONE);
        due("the wrong way", ring.give(1, 1, t), NONE);
        due("to another one in this season", ring.give(1, 2, t), 0);
    }

    private static void needNotAboveWorth() {
        about("the one of the greatest NEED that is not above WORTH is CLOSED by it");
        for (int worth = 48; worth <= 52; worth++) {
            GiftRing ring = openings(50);
            due("worth " + worth, giveBack(ring, worth), worth >= 50 ? 1 : 2);
            due("debt(0, 5)", ring.debt(0, 5), worth >= 50 ? 1 : 0);
            due("debt(0, 7)", ring.debt(0, 7), worth >= 50 ? 1 : NONE);
            due("debt(0, 4)", ring.debt(0, 4), worth >= 50 ? 4 : 6);
        }
        int[] closed = {NONE, 1, 1, 1, 3, 3, 0, 0};
        int[] worths = {29, 30, 31, 39, 40, 49, 50, 999};
        for (int i = 0; i < worths.length; i++) {
            GiftRing ring = openings(50, 30, 50, 40);
            due("worth " + worths[i], giveBack(ring, worths[i]), closed[i] == NONE ? 2 : 1);
            for (int d = 0; d < 4; d++) {
                due("debt(" + d + ", 5)", ring.debt(d, 5), d == closed[i] ? 1 : 0);
            }
        }
    }

    private static void ofLikeOnesTheFirst() {
        about("of like ones the first (a RETURN)");
        GiftRing ring = openings(10, 50, 50, 50, 60);
        for (int d = 1; d <= 3; d++) {
            due("a return", giveBack(ring, 55), 1);
            due("debt(" + d + ", 7)", ring.debt(d, 7), 4 + d);
        }
        due("a return", giveBack(ring, 55), 1);
        due("debt(0, 7)", ring.debt(0, 7), 8);
        due("meanwhile", giveBack(ring, 55), 2);
        due("debt(4, 4)", ring.debt(4, 4), 6);
    }

    private static void forTheOtherKind() {
        about("If the giver OWES the receiver DEBTS for the other kind that are open");
        GiftRing ring = closedRing(3);
        tell(ring, "p100");
        ring.treasure(0, 10, 0);
        ring.treasure(0, 10, 0);
        ring.treasure(1, 10, 1);
        ring.treasure(1, 10, 1);
        ring.treasure(1, 10, 1);
        due("0 gives a necklace", ring.give(0, 1, 0), 0);
        due("and another: he owes nothing", ring.give(0, 1, 1), 0);
        due("an armshell", ring.give(1, 0, 2), 1);
        due("and another", ring.give(1, 0, 3), 1);
        due("none is open", ring.give(1, 0, 4), 0);
        due("debt(2, 0)", ring.debt(2, 0), 0);
        due("debt(2, 1)", ring.debt(2, 1), 1);
        due("debt(2, 2)", ring.debt(2, 2), 1);
        ring.season();
        due("0 owes for an armshell: to another one nothing", ring.give(0, 2, 2), 0);
        due("1 gives on a necklace: to another one nothing", ring.give(1, 2, 0), 0);
        due("2 owes both: a necklace to 0", ring.give(2, 0, ring.treasure(0, 10, 2)), 1);
        due("closes the one for the armshell", ring.debt(3, 5), 1);
        due("an armshell to 1", ring.give(2, 1, ring.treasure(1, 10, 2)), 1);
        due("closes the one for the necklace", ring.debt(4, 5), 1);
    }

    private static void belowAllOfThem() {
        about("if WORTH is below all of them, the DUE SEASON of the first of these is k later");
        GiftRing ring = openings(50, 60, 40);
        due("below the least", giveBack(ring, 39), 2);
        due("the first", ring.debt(0, 4), 6);
        due("not the second", ring.debt(1, 4), 4);
        due("not the least", ring.debt(2, 4), 4);
        due("nothing is won for the first before", giveBack(ring, 39), 2);
        due("the first", ring.debt(0, 4), 6);
        due("not the second", ring.debt(1, 4), 4);
        due("not the third", ring.debt(2, 4), 4);
        due("at the least", giveBack(ring, 40), 1);
        due("the first is closed", giveBack(ring, 59), 1);
        due("debt(0, 5)", ring.debt(0, 5), 1);
        due("the first of the open ones", giveBack(ring, 59), 2);
        due("debt(1, 4)", ring.debt(1, 4), 6);
        due("a closed one wins nothing", ring.debt(0, 4), 6);
    }

    private static void seasonsThatAreWon() {
        about("k SEASONS that a gift meanwhile wins (0 to 99; 2)");
        int[] wins = {0, 1, 2, 98, 99};
        for (int k : wins) {
            GiftRing ring = openings(50);
            tell(ring, "k" + k);
            due("meanwhile", giveBack(ring, 49), 2);
            due("k" + k, ring.debt(0, 4), 4 + k);
            due("meanwhile once more", giveBack(ring, 49), 2);
            due("nothing is won", ring.debt(0, 4), 4 + k);
        }
    }

    private static void wonOnceUnderAnyCustom() {
        about("if that was not won for it before");
        GiftRing ring = openings(50);
        due("meanwhile", giveBack(ring, 1), 2);
        tell(ring, "k9");
        due("by another custom", giveBack(ring, 1), 2);
        due("nothing is won", ring.debt(0, 4), 6);
        ring.man(0);
        ring.man(1);
        due("dies(0, 2)", ring.dies(0, 2), true);
        due("dies(1, 3)", ring.dies(1, 3), true);
        due("by heirs", ring.give(3, 2, ring.treasure(1, 1, 3)), 2);
        due("nothing is won", ring.debt(0, 4), 6);
        GiftRing none = openings(50);
        tell(none, "k0");
        due("meanwhile where k is 0", giveBack(none, 1), 2);
        tell(none, "k9");
        due("meanwhile where k is 9", giveBack(none, 1), 2);
        due("the 0 were won before", none.debt(0, 4), 4);
    }

    private static void needIsRoundedUp() {
        about("of NEED p hundredths of WORTH, rounded up");
        int[][] rows = {
            {1, 1, 1}, {1, 99, 1}, {1, 100, 1}, {1, 101, 2}, {1, 999, 10}, {2, 50, 1}, {2, 51, 2}, {2, 49, 1},
            {80, 1, 1}, {80, 4, 4}, {80, 5, 4}, {80, 6, 5}, {80, 999, 800}, {99, 100, 99}, {99, 101, 100},
            {100, 1, 1}, {100, 999, 999}, {101, 1, 2}, {101, 100, 101}, {101, 999, 1009}, {299, 100, 299},
            {299, 999, 2988}, {300, 1, 3}, {300, 998, 2994}, {300, 999, 2997}, {50, 1, 1}, {50, 2, 1}, {50, 3, 2},
        };
        for (int[] row : rows) {
            GiftRing ring = chain(0, 1);
            tell(ring, "p" + row[0]);
            ring.give(0, 1, ring.treasure(0, row[1], 0));
            due("p" + row[0] + " of " + row[1], ring.debt(0, 3), row[2]);
        }
    }

    private static void dueInSeasonAndD() {
        about("DUE in SEASON and d");
        for (int d : new int[] {1, 2, 98, 99}) {
            for (int season : new int[] {0, 1, 5}) {
                GiftRing ring = chain(0, 1);
                tell(ring, "d" + d);
                ring.treasure(0, 10, 0);
                seasons(ring, season);
                ring.give(0, 1, 0);
                due("d" + d + " in season " + season, ring.debt(0, 4), season + d);
            }
        }
    }

    private static void twoHundredDebts() {
        about("DEBTS have numbers, 200 at most: an OPENING more can't be");
        GiftRing ring = ringOfDebts(199);
        due("count(5)", ring.count(5), 199);
        due("debt(199, 0) before", ring.debt(199, 0), NONE);
        due("the 200th", ring.give(2, 0, 15), 0);
        due("debt(199, 6)", ring.debt(199, 6), 15);
        due("one more", ring.give(2, 0, 16), NONE);
        due("count(5)", ring.count(5), 200);
        due("debt(200, 0)", ring.debt(200, 0), NONE);
        due("who holds it", ring.told(16, 2), 2);
        due("his fame", ring.look(2, 2), (46 + 16) * 100);
        int small = ring.treasure(1, 79, 2);
        due("a gift meanwhile can be", ring.give(2, 1, small), 2);
        ring.season();
        due("and of 1 too", ring.give(1, 0, small), 2);
        ring.season();
        due("0 owes 2 too", ring.give(0, 2, small), 2);
    }

    private static void closedDebtsKeepTheirNumbers() {
        about("DEBTS have numbers, 200 at most (closed ones, too)");
        GiftRing ring = ringOfDebts(200);
        int back = ring.treasure(1, 80, 2);
        due("a return can be", ring.give(2, 1, back), 1);
        due("count(6)", ring.count(6), 199);
        due("an opening can't", ring.give(2, 0, 20), NONE);
        due("count(5)", ring.count(5), 200);
    }

    private static void lateAboveTheDueSeason() {
        about("a DEBT that is LATE: open, and SEASON is above its DUE one");
        GiftRing ring = openings(10);
        int[] states = {0, 0, 0, 0, 0, 2, 2};
        for (int season = 0; season < states.length; season++) {
            due("debt(0, 5) in season " + season, ring.debt(0, 5), states[season]);
            due("look(1, 6) in season " + season, ring.look(1, 6), states[season] / 2);
            due("look(0, 6) in season " + season, ring.look(0, 6), 0);
            due("quarrel(0, 1) in season " + season, ring.quarrel(0, 1), states[season] / 2);
            due("quarrel(1, 0) in season " + season, ring.quarrel(1, 0), states[season] / 2);
            due("look(1, 4) in season " + season, ring.look(1, 4), 1);
            due("look(0, 5) in season " + season, ring.look(0, 5), 1);
            due("count(6) in season " + season, ring.count(6), 1);
            ring.season();
        }
        due("a return", giveBack(ring, 10), 1);
        due("a closed one is not late", ring.debt(0, 5), 1);
        due("look(1, 6)", ring.look(1, 6), 0);
        due("quarrel(0, 1)", ring.quarrel(0, 1), 0);
    }

    private static void wonInTheLastSeason() {
        about("LATE: .. SEASON is above its DUE one (when seasons were won)");
        GiftRing ring = openings(10);
        seasons(ring, 4);
        due("meanwhile in the due season", giveBack(ring, 9), 2);
        seasons(ring, 2);
        due("quarrel in season 6", ring.quarrel(0, 1), 0);
        ring.season();
        due("quarrel in season 7", ring.quarrel(0, 1), 1);
        due("meanwhile is too late", giveBack(ring, 9), NONE);
        GiftRing late = openings(10);
        seasons(late, 5);
        due("meanwhile a season later", giveBack(late, 9), NONE);
        due("debt(0, 4)", late.debt(0, 4), 4);
    }

    private static void nothingButReturns() {
        about("They give one another nothing but RETURNS");
        GiftRing ring = closedRing(3);
        tell(ring, "p100;d1");
        ring.treasure(0, 50, 0);
        ring.treasure(0, 10, 0);
        ring.treasure(1, 30, 1);
        ring.treasure(0, 30, 0);
        ring.treasure(1, 49, 1);
        ring.treasure(1, 50, 1);
        due("1 gives 0 an armshell", ring.give(1, 0, 2), 0);
        due("0 gives 1 a necklace meanwhile", ring.give(0, 1, 1), 2);
        due("0 gives 1 a necklace in return", ring.give(0, 1, 0), 1);
        due("0 gives 1 a necklace", ring.give(0, 1, 3), 0);
        tell(ring, "p100;d9");
        due("1 gives 0 an armshell", ring.give(1, 0, 5), 1);
        due("1 gives 0 an armshell again", ring.give(1, 0, 4), 0);
        int open = ring.treasure(0, 999, 1);
        due("to another one", ring.give(1, 2, open), 0);
        seasons(ring, 10);
        due("quarrel(0, 1)", ring.quarrel(0, 1), 1);
        due("quarrel(1, 2)", ring.quarrel(1, 2), 1);
        due("quarrel(0, 2)", ring.quarrel(0, 2), 0);
        int withheld = ring.treasure(1, 999, 1);
        due("an opening by the creditor", ring.give(1, 0, withheld), NONE);
        due("a gift meanwhile by the debtor", ring.give(0, 1, ring.treasure(0, 48, 0)), NONE);
        due("others are not asked", ring.give(0, 2, 2), 0);
        due("a return by the debtor", ring.give(0, 1, ring.treasure(0, 49, 0)), 1);
        due("no quarrel then", ring.quarrel(0, 1), 0);
        due("an opening then", ring.give(1, 0, withheld), 0);
    }

    private static void aReturnOfAnotherDebt() {
        about("They give one another nothing but RETURNS (one that is not LATE, too)");
        GiftRing ring = openings(50);
        tell(ring, "p100;d99");
        due("another one", ring.give(0, 1, ring.treasure(0, 20, 0)), 0);
        seasons(ring, 5);
        due("debt(0, 5)", ring.debt(0, 5), 2);
        due("debt(1, 5)", ring.debt(1, 5), 0);
        due("a return of the one that is not late", giveBack(ring, 20), 1);
        due("debt(1, 5)", ring.debt(1, 5), 1);
        due("the quarrel stays", ring.quarrel(0, 1), 1);
        due("meanwhile", giveBack(ring, 49), NONE);
        due("a return of the late one", giveBack(ring, 50), 1);
        due("no quarrel", ring.quarrel(0, 1), 0);
    }

    private static void fameOfGifts() {
        about("FAME: WORTH of what he gave by OPENINGS and RETURNS, half of it, rounded down, MEANWHILE");
        int[][] halves = {{1, 0}, {2, 1}, {3, 1}, {4, 2}, {998, 499}, {999, 499}};
        for (int[] row : halves) {
            GiftRing ring = chain(0, 1);
            tell(ring, "p300");
            ring.give(0, 1, ring.treasure(0, 999, 0));
            due("an opening", ring.look(0, 2), 999);
            due("meanwhile of " + row[0], giveBack(ring, row[0]), 2);
            due("half of " + row[0], ring.look(1, 2), row[1]);
            due("where nothing is won, too", giveBack(ring, row[0]), 2);
            due("half of " + row[0] + " twice", ring.look(1, 2), 2 * row[1]);
            due("of the receiver", ring.look(0, 2), 999);
        }
        GiftRing ring = openings(1);
        due("an opening of 1", ring.look(0, 2), 1);
        due("a return", giveBack(ring, 999), 1);
        due("fame by a return", ring.look(1, 2), 999);
    }

    private static void aRefusedGiftBringsNoFame() {
        about("NONE: he can't");
        GiftRing ring = openings(50);
        seasons(ring, 5);
        due("meanwhile in a quarrel", giveBack(ring, 49), NONE);
        due("fame of 1", ring.look(1, 2), 0);
        due("debt(0, 4)", ring.debt(0, 4), 4);
        due("told(1, 2)", ring.told(1, 2), 1);
        due("told(1, 4)", ring.told(1, 4), 1);
        due("an opening in a quarrel", ring.give(0, 1, ring.treasure(0, 9, 0)), NONE);
        due("fame of 0", ring.look(0, 2), 50);
        due("count(5)", ring.count(5), 1);
    }

    private static void aRefusedGiftWinsNothing() {
        about("if that was not won for it before (a refused gift wins nothing)");
        GiftRing ring = chain(0, 1);
        tell(ring, "p100;d50");
        due("the first is due late", ring.give(0, 1, ring.treasure(0, 50, 0)), 0);
        tell(ring, "p100;d1");
        due("the second is due soon", ring.give(0, 1, ring.treasure(0, 40, 0)), 0);
        seasons(ring, 2);
        int small = ring.treasure(1, 30, 1);
        due("a gift meanwhile in a quarrel", ring.give(1, 0, small), NONE);
        due("a return ends it", giveBack(ring, 40), 1);
        due("debt(0, 4)", ring.debt(0, 4), 50);
        due("a gift meanwhile then", ring.give(1, 0, small), 2);
        due("wins", ring.debt(0, 4), 52);
    }

    public static void main(String[] args) {
        aHolderGives();
        noSuchOnes();
        theDeadGiveAndGetNothing();
        onceInASeason();
        aRefusedGiftIsNotGiven();
        needNotAboveWorth();
        ofLikeOnesTheFirst();
        forTheOtherKind();
        belowAllOfThem();
        seasonsThatAreWon();
        wonOnceUnderAnyCustom();
        needIsRoundedUp();
        dueInSeasonAndD();
        twoHundredDebts();
        closedDebtsKeepTheirNumbers();
        lateAboveTheDueSeason();
        wonInTheLastSeason();
        nothingButReturns();
        aReturnOfAnotherDebt();
        fameOfGifts();
        aRefusedGiftBringsNoFame();
        aRefusedGiftWinsNothing();
        finish();
    }
}
