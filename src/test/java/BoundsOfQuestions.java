/** The document's sentences that bound closings, soonest ways and what can be asked, a test for each. */
public final class BoundsOfQuestions extends RingTest {
    private static final int[] NO_DEBTS = {};

    private static void needNotAboveItsWorth() {
        about("each TREASURE one DEBT, for the other kind, of a NEED not above its WORTH");
        for (int worth = 49; worth <= 51; worth++) {
            GiftRing ring = debtor(new int[] {50}, NO_DEBTS);
            ring.treasure(0, worth, 1);
            if (worth < 50) {
                closingRow(ring, 0, NONE);
            } else {
                closingRow(ring, 1, 1);
            }
        }
        GiftRing one = debtor(new int[] {50, 50}, NO_DEBTS);
        one.treasure(0, 999, 1);
        closingRow(one, 1, 2, NONE);
        GiftRing like = debtor(new int[] {50}, NO_DEBTS);
        like.treasure(1, 50, 1);
        closingRow(like, 0, NONE);
        like.treasure(0, 50, 1);
        closingRow(like, 1, 2);
        GiftRing necklace = debtor(NO_DEBTS, new int[] {50});
        necklace.treasure(0, 50, 1);
        closingRow(necklace, 0, NONE);
        necklace.treasure(1, 50, 1);
        closingRow(necklace, 1, 2);
    }

    private static void mostDebts() {
        about("of all ways that with most DEBTS");
        GiftRing ring = debtor(new int[] {10, 40}, NO_DEBTS);
        ring.treasure(0, 999, 1);
        ring.treasure(0, 10, 1);
        closingRow(ring, 2, 3, 2);
        GiftRing dear = debtor(new int[] {1, 2, 3, 4, 5, 6}, NO_DEBTS);
        for (int i = 0; i < 6; i++) {
            dear.treasure(0, 999, 1);
        }
        closingRow(dear, 6, 6, 7, 8, 9, 10, 11);
        GiftRing shift = debtor(new int[] {30, 20, 10}, NO_DEBTS);
        shift.treasure(0, 10, 1);
        shift.treasure(0, 20, 1);
        shift.treasure(0, 30, 1);
        closingRow(shift, 3, 5, 4, 3);
    }

    private static void leastWorthInAll() {
        about("of like ones the least WORTH in all");
        GiftRing ring = debtor(new int[] {10}, NO_DEBTS);
        ring.treasure(0, 12, 1);
        ring.treasure(0, 11, 1);
        ring.treasure(0, 13, 1);
        closingRow(ring, 1, 2);
        GiftRing two = debtor(new int[] {50, 10}, NO_DEBTS);
        two.treasure(0, 60, 1);
        two.treasure(0, 49, 1);
        two.treasure(0, 61, 1);
        closingRow(two, 2, 2, 3);
        GiftRing whichDebt = debtor(new int[] {50, 10}, NO_DEBTS);
        whichDebt.treasure(0, 50, 1);
        closingRow(whichDebt, 1, 2, NONE);
        GiftRing later = debtor(new int[] {50, 10}, NO_DEBTS);
        later.treasure(0, 40, 1);
        closingRow(later, 1, NONE, 2);
    }

    private static void theLeastRow() {
        about("of like ones the least row: DEBTS by numbers, each the TREASURE's number, 24 if it has none");
        GiftRing ring = debtor(new int[] {10, 10, 10}, NO_DEBTS);
        ring.treasure(0, 20, 1);
        closingRow(ring, 1, 3, NONE, NONE);
        ring.treasure(0, 20, 1);
        closingRow(ring, 2, 3, 4, NONE);
        GiftRing swapped = debtor(new int[] {10, 20}, NO_DEBTS);
        swapped.treasure(0, 30, 1);
        swapped.treasure(0, 30, 1);
        swapped.treasure(0, 30, 1);
        closingRow(swapped, 2, 2, 3);
        GiftRing numbers = debtor(new int[] {30, 10}, NO_DEBTS);
        numbers.treasure(0, 15, 1);
        numbers.treasure(0, 30, 1);
        numbers.treasure(0, 30, 1);
        numbers.treasure(0, 15, 1);
        closingRow(numbers, 2, 3, 2);
        GiftRing likeInAll = debtor(new int[] {40, 10}, NO_DEBTS);
        likeInAll.treasure(0, 50, 1);
        likeInAll.treasure(0, 45, 1);
        closingRow(likeInAll, 2, 2, 3);
        GiftRing kinds = debtor(new int[] {10}, new int[] {10});
        kinds.treasure(0, 10, 1);
        kinds.treasure(1, 10, 1);
        closingRow(kinds, 2, 3, 2);
    }

    /** The last of 24 treasures has number 23 and comes before none, which counts 24. */
    private static void theLastTreasureComesBeforeNone() {
        about("24 if it has none");
        GiftRing ring = debtor(new int[] {10, 10}, NO_DEBTS);
        for (int t = 2; t < 23; t++) {
            ring.treasure(0, 1, 2);
        }
        due("the last", ring.treasure(0, 10, 1), 23);
        closingRow(ring, 1, 23, NONE);
    }

    private static void theFirstEight() {
        about("which of his TREASURES that can be given this SEASON (the first eight)");
        GiftRing ring = debtor(new int[] {10}, NO_DEBTS);
        for (int i = 0; i < 7; i++) {
            ring.treasure(i % 2, 9, 1);
        }
        ring.treasure(0, 30, 1);
        ring.treasure(0, 10, 1);
        closingRow(ring, 1, 8);
        due("one of the eight is lost", ring.lost(3), true);
        closingRow(ring, 1, 9);
        GiftRing nine = debtor(new int[] {10}, NO_DEBTS);
        for (int i = 0; i < 8; i++) {
            nine.treasure(i % 2, 9, 1);
        }
        nine.treasure(0, 10, 1);
        closingRow(nine, 0, NONE);
        due("one of the eight is given", nine.give(1, 2, 1), 2);
        closingRow(nine, 1, 9);
        nine.season();
        due("he holds nine, and 0 can be given again", nine.look(1, 3), 9);
        closingRow(nine, 0, NONE);
    }

    private static void othersTreasuresAreNotHis() {
        about("CLOSINGS of a MAN: which of his TREASURES");
        GiftRing ring = debtor(new int[] {10}, NO_DEBTS);
        for (int i = 0; i < 9; i++) {
            ring.treasure(0, 10, i % 2 == 0 ? 0 : 2);
        }
        closingRow(ring, 0, NONE);
        ring.treasure(0, 10, 1);
        closingRow(ring, 1, 10);
    }

    private static void givenInThisSeason() {
        about("that can be given this SEASON");
        GiftRing ring = debtor(new int[] {10}, NO_DEBTS);
        int t = ring.treasure(0, 10, 0);
        due("given to him in this season", ring.give(0, 1, t), 0);
        closingRow(ring, 0, NONE, NONE);
        ring.season();
        closingRow(ring, 2, t, 0);
        ring.man(0);
        due("inherited", ring.dies(1, 3), true);
        due("closings(3)", ring.closings(3), 2);
        due("closing(0)", ring.closing(0), t);
    }

    private static void theFirstSixDebts() {
        about("which of the open DEBTS that he OWES (the first six)");
        GiftRing ring = debtor(new int[] {20, 20, 20, 20, 20, 10, 5}, NO_DEBTS);
        int t = ring.treasure(0, 10, 1);
        closingRow(ring, 1, NONE, NONE, NONE, NONE, NONE, t);
        GiftRing seven = debtor(new int[] {20, 20, 20, 20, 20, 20, 5}, NO_DEBTS);
        seven.treasure(0, 10, 1);
        closingRow(seven, 0, NONE, NONE, NONE, NONE, NONE, NONE);
        int back = seven.treasure(0, 20, 1);
        due("a debt of the six is closed", seven.give(1, 2, back), 1);
        closingRow(seven, 1, NONE, NONE, NONE, NONE, NONE, 7);
        GiftRing five = debtor(new int[] {20, 20, 20, 20, 20}, NO_DEBTS);
        closingRow(five, 0, NONE, NONE, NONE, NONE, NONE);
    }

    private static void lateDebtsAreOpen() {
        about("open DEBTS that he OWES (LATE ones are open)");
        GiftRing ring = debtor(new int[] {10}, new int[] {10});
        ring.treasure(0, 10, 1);
        seasons(ring, 5);
        due("late ones", ring.look(1, 6), 2);
        closingRow(ring, 2, 1, 0);
        due("a return", ring.give(1, 2, 0), 1);
        closingRow(ring, 1, 1);
    }

    private static void closingsOfALivingMan() {
        about("CLOSINGS of a LIVING MAN: how many DEBTS; NONE: no such one");
        GiftRing ring = debtor(new int[] {10}, NO_DEBTS);
        ring.man(0);
        for (int bad : new int[] {-1, 4, 16, 32, HIGH, LOW}) {
            due("closings(" + bad + ")", ring.closings(bad), NONE);
        }
        due("the last", ring.closings(3), 0);
        due("dies", ring.dies(1, 3), true);
        due("a dead man", ring.closings(1), NONE);
        ring.treasure(0, 10, 3);
        due("his heir", ring.closings(3), 1);
    }

    private static void theLatestThatWasNotNone() {
        about("by the latest closings() that was not NONE");
        GiftRing ring = debtor(new int[] {10, 20}, NO_DEBTS);
        ring.treasure(0, 15, 1);
        due("closing(0) before closings()", ring.closing(0), NONE);
        closingRow(ring, 1, 2, NONE);
        due("closings(-1)", ring.closings(-1), NONE);
        due("closings(3)", ring.closings(3), NONE);
        due("it stays", ring.closing(0), 2);
        ring.treasure(0, 14, 1);
        due("it stays when a treasure is made", ring.closing(0), 2);
        due("it stays when one is lost", ring.lost(2), true);
        due("closing(0)", ring.closing(0), 2);
        ring.season();
        due("it stays when a season goes by", ring.closing(0), 2);
        closingRow(ring, 1, 3, NONE);
        due("one who owes nothing", ring.closings(2), 0);
        due("has no row", ring.closing(0), NONE);
    }

    private static void fewerDebtsThanBefore() {
        about("by the latest closings() (nothing of an earlier one is in it)");
        GiftRing ring = debtor(new int[] {10, 10, 10}, NO_DEBTS);
        ring.treasure(0, 30, 1);
        ring.treasure(0, 20, 1);
        ring.treasure(0, 10, 1);
        closingRow(ring, 3, 3, 4, 5);
        due("a return", ring.give(1, 2, ring.treasure(0, 10, 1)), 1);
        closingRow(ring, 2, 4, 5);
        due("another one", ring.give(1, 2, ring.treasure(0, 10, 1)), 1);
        closingRow(ring, 1, 5);
    }

    private static void placesOfARow() {
        about("closing: NONE: none, none such");
        GiftRing ring = debtor(new int[] {1, 2, 3, 4, 5, 6, 7}, NO_DEBTS);
        for (int i = 0; i < 7; i++) {
            ring.treasure(0, 9, 1);
        }
        due("closings(1)", ring.closings(1), 6);
        due("closing(5), the last", ring.closing(5), 12);
        for (int bad : new int[] {-1, 6, 7, HIGH, LOW}) {
            due("closing(" + bad + ")", ring.closing(bad), NONE);
        }
    }

    private static void fewestGifts() {
        about("SOONEST: how a TREASURE can come to a MAN in fewest GIFTS from HOLDER to PARTNER on its way round");
        for (int n = 3; n <= 8; n++) {
            GiftRing ring = closedRing(n);
            int beside = ring.man(0);
            ring.treasure(0, 10, 0);
            ring.treasure(1, 10, 0);
            for (int m = 0; m < n; m++) {
                due(n + " islands, a necklace to " + m, ring.soonest(0, m), m);
                due(n + " islands, an armshell to " + m, ring.soonest(1, m), (n - m) % n);
            }
            due("nobody is his partner", ring.soonest(0, beside), NONE);
            ring.partners(beside, n - 1);
            due(n + " islands, all round", ring.soonest(0, beside), n);
            due("the other way round", ring.soonest(1, beside), NONE);
            ring.partners(beside, 1);
            due(n + " islands, all round back", ring.soonest(1, beside), n);
        }
    }

    private static void theLeastRowOfMen() {
        about("of like ones the least row of MEN");
        GiftRing ring = new GiftRing();
        for (int island : new int[] {0, 2, 1, 1, 2, 3}) {
            ring.man(island);
        }
        int[][] pairs = {{0, 3}, {0, 2}, {3, 1}, {2, 4}, {1, 5}, {4, 5}};
        for (int[] pair : pairs) {
            ring.partners(pair[0], pair[1]);
        }
        ring.treasure(0, 10, 0);
        ring.treasure(1, 10, 5);
        int[] on = {0, 2, 4, 5};
        int[] back = {5, 1, 3, 0};
        due("soonest(0, 5)", ring.soonest(0, 5), 3);
        due("soonest(1, 0)", ring.soonest(1, 0), 3);
        for (int i = 0; i < 4; i++) {
            due("through(0, 5, " + i + ")", ring.through(0, 5, i), on[i]);
            due("through(1, 0, " + i + ")", ring.through(1, 0, i), back[i]);
        }
        due("a shorter way for the second", ring.partners(2, 1), true);
        due("through(0, 5, 1)", ring.through(0, 5, 1), 2);
        due("the least row goes there", ring.through(0, 5, 2), 1);
    }

    private static void noWay() {
        about("0: he holds it; NONE: it can't, no such ones, it is LOST, he is not LIVING");
        GiftRing ring = chain(0, 1, 2);
        ring.man(1);
        ring.man(1);
        ring.treasure(0, 10, 1);
        due("he holds it", ring.soonest(0, 1), 0);
        due("it can", ring.soonest(0, 2), 1);
        due("it can't, back", ring.soonest(0, 0), NONE);
        due("it can't, no partner", ring.soonest(0, 3), NONE);
        for (int bad : new int[] {-1, 5, 16, HIGH, LOW}) {
            due("soonest(0, " + bad + ")", ring.soonest(0, bad), NONE);
            due("through(0, " + bad + ", 0)", ring.through(0, bad, 0), NONE);
        }
        for (int bad : new int[] {-1, 1, 24, HIGH, LOW}) {
            due("soonest(" + bad + ", 1)", ring.soonest(bad, 1), NONE);
            due("through(" + bad + ", 1, 0)", ring.through(bad, 1, 0), NONE);
        }
        due("dies", ring.dies(1, 4), true);
        due("he is not living", ring.soonest(0, 1), NONE);
        due("through, he is not living", ring.through(0, 1, 0), NONE);
        due("his heir holds it", ring.soonest(0, 4), 0);
        due("through(0, 4, 0)", ring.through(0, 4, 0), 4);
        due("from his heir", ring.soonest(0, 2), 1);
        due("lost", ring.lost(0), true);
        due("it is lost", ring.soonest(0, 4), NONE);
        due("through, it is lost", ring.through(0, 4, 0), NONE);
    }

    private static void quarrelsAreNotAsked() {
        about("QUARRELS and DEBTS are not asked");
        GiftRing ring = chain(0, 1, 2);
        ring.treasure(0, 10, 0);
        ring.treasure(0, 10, 0);
        due("give", ring.give(0, 1, 0), 0);
        due("given in this season", ring.soonest(0, 2), 1);
        seasons(ring, 5);
        due("quarrel", ring.quarrel(0, 1), 1);
        due("soonest", ring.soonest(1, 2), 2);
        due("through", ring.through(1, 2, 1), 1);
        about("QUARRELS and DEBTS are not asked (200 are there)");
        due("soonest", ringOfDebts(200).soonest(22, 0), 1);
    }

    private static void placesOfAWay() {
        about("MAN i on that way (0: the HOLDER); NONE: there is none such (or no way)");
        GiftRing ring = chain(0, 1, 2, 3);
        ring.treasure(0, 10, 1);
        int[] want = {1, 2, 3};
        for (int i = 0; i < 3; i++) {
            due("through(0, 3, " + i + ")", ring.through(0, 3, i), want[i]);
        }
        for (int bad : new int[] {-1, 3, 4, HIGH, LOW}) {
            due("through(0, 3, " + bad + ")", ring.through(0, 3, bad), NONE);
        }
        due("through(0, 1, 0)", ring.through(0, 1, 0), 1);
        due("through(0, 1, 1)", ring.through(0, 1, 1), NONE);
        due("no way", ring.through(0, 0, 0), NONE);
    }

    private static void whatCanBeLookedAt() {
        about("look: NONE for others (2 can be that)");
        GiftRing ring = chain(0, 1);
        tell(ring, "h0");
        ring.treasure(0, 10, 1);
        ring.season();
        due("fame that is NONE", ring.look(1, 2), -1);
        for (int what = 0; what < 8; what++) {
            due("look(0, " + what + ") is something", ring.look(0, what) >= 0, true);
        }
        for (int bad : new int[] {-1, 8, 9, HIGH, LOW}) {
            due("look(0, " + bad + ")", ring.look(0, bad), NONE);
        }
        for (int bad : new int[] {-1, 2, 15, 16, HIGH, LOW}) {
            for (int what = 0; what < 8; what++) {
                due("look(" + bad + ", " + what + ")", ring.look(bad, what), NONE);
            }
        }
    }

    private static void whatIsTold() {
        about("told: 2 HOLDER (NONE: LOST) .. NONE for others");
        GiftRing ring = chain(0);
        ring.treasure(0, 10, 0);
        int[] want = {0, 10, 0, 0, 1};
        for (int what = 0; what < 5; what++) {
            due("told(0, " + what + ")", ring.told(0, what), want[what]);
        }
        for (int bad : new int[] {-1, 5, 6, HIGH, LOW}) {
            due("told(0, " + bad + ")", ring.told(0, bad), NONE);
        }
        for (int bad : new int[] {-1, 1, 23, 24, HIGH, LOW}) {
            for (int what = 0; what < 5; what++) {
                due("told(" + bad + ", " + what + ")", ring.told(bad, what), NONE);
            }
        }
        due("lost", ring.lost(0), true);
        int[] then = {0, 10, NONE, 0, 1};
        for (int what = 0; what < 5; what++) {
            due("told(0, " + what + ") of a lost one", ring.told(0, what), then[what]);
        }
    }

    private static void whatADebtIs() {
        about("debt: 7 that CLOSED it (NONE). NONE for others");
        GiftRing ring = chain(0, 1);
        ring.treasure(1, 9, 1);
        ring.treasure(1, 10, 1);
        ring.give(1, 0, 1);
        int[] want = {0, 1, 1, 8, 4, 0, 1, NONE};
        for (int what = 0; what < 8; what++) {
            due("debt(0, " + what + ")", ring.debt(0, what), want[what]);
        }
        for (int bad : new int[] {-1, 8, 9, HIGH, LOW}) {
            due("debt(0, " + bad + ")", ring.debt(0, bad), NONE);
        }
        for (int bad : new int[] {-1, 1, 199, 200, HIGH, LOW}) {
            for (int what = 0; what < 8; what++) {
                due("debt(" + bad + ", " + what + ")", ring.debt(bad, what), NONE);
            }
        }
        due("a return", ring.give(0, 1, ring.treasure(0, 8, 0)), 1);
        due("debt(0, 5)", ring.debt(0, 5), 1);
        due("debt(0, 7)", ring.debt(0, 7), 2);
    }

    private static void closedByTheFirstTreasure() {
        about("debt: 7 that CLOSED it (its number can be 0)");
        GiftRing ring = chain(0, 1);
        ring.treasure(1, 10, 1);
        ring.treasure(0, 10, 0);
        ring.give(0, 1, 1);
        due("a return", ring.give(1, 0, 0), 1);
        due("debt(0, 5)", ring.debt(0, 5), 1);
        due("debt(0, 7)", ring.debt(0, 7), 0);
        due("count(6)", ring.count(6), 0);
    }

    private static void twoMen() {
        about("Whether a QUARREL is between two MEN: 1, 0; NONE: no such two");
        GiftRing ring = chain(0, 1, 2);
        due("two", ring.quarrel(0, 2), 0);
        due("one", ring.quarrel(2, 2), NONE);
        for (int bad : new int[] {-1, 3, 15, 16, HIGH, LOW}) {
            due("quarrel(0, " + bad + ")", ring.quarrel(0, bad), NONE);
            due("quarrel(" + bad + ", 0)", ring.quarrel(bad, 0), NONE);
        }
        ring.man(1);
        due("dies", ring.dies(1, 3), true);
        due("a dead man is a man", ring.quarrel(0, 1), 0);
    }

    private static void whatIsCounted() {
        about("count: NONE for others");
        GiftRing ring = chain(0, 1);
        for (int bad : new int[] {-1, 9, 14, 15, HIGH, LOW}) {
            due("count(" + bad + ")", ring.count(bad), NONE);
        }
        for (int what = 0; what <= 13; what++) {
            due("count(" + what + ") is something", ring.count(what) >= 0, what != 9);
        }
    }

    public static void main(String[] args) {
        needNotAboveItsWorth();
        mostDebts();
        leastWorthInAll();
        theLeastRow();
        theLastTreasureComesBeforeNone();
        theFirstEight();
        othersTreasuresAreNotHis();
        givenInThisSeason();
        theFirstSixDebts();
        lateDebtsAreOpen();
        closingsOfALivingMan();
        theLatestThatWasNotNone();
        fewerDebtsThanBefore();
        placesOfARow();
        fewestGifts();
        theLeastRowOfMen();
        noWay();
        quarrelsAreNotAsked();
        placesOfAWay();
        whatCanBeLookedAt();
        whatIsTold();
        whatADebtIs();
        closedByTheFirstTreasure();
        twoMen();
        whatIsCounted();
        finish();
    }
}
