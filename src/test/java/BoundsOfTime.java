/** The document's sentences that bound seasons, deaths, losses, news and ways, a test for each. */
public final class BoundsOfTime extends RingTest {
    private static void heldLongerThanH() {
        about("each TREASURE that he has held longer than h SEASONS (SEASON, less that in which it came to him)");
        for (int h : new int[] {0, 1, 6, 98, 99}) {
            GiftRing ring = chain(0, 1);
            tell(ring, "h" + h);
            seasons(ring, 2);
            ring.treasure(0, 50, 0);
            seasons(ring, h);
            due("h" + h + ", held just so long", ring.look(0, 2), 0);
            ring.season();
            due("h" + h + ", held longer", ring.look(0, 2), -5);
            ring.season();
            due("h" + h + ", each season", ring.look(0, 2), -10);
            due("of another one", ring.look(1, 2), 0);
        }
    }

    private static void sixSeasonsAtFirst() {
        about("h SEASONS that one may hold (.. 6)");
        GiftRing ring = chain(0);
        ring.treasure(1, 10, 0);
        seasons(ring, 6);
        due("in season 6", ring.look(0, 2), 0);
        ring.season();
        due("in season 7", ring.look(0, 2), -1);
    }

    private static void aTenthRoundedUp() {
        about("less FAME by its WORTH / 10, rounded up");
        int[][] rows = {{1, 1}, {9, 1}, {10, 1}, {11, 2}, {19, 2}, {20, 2}, {21, 3}, {990, 99}, {991, 100}, {999, 100}};
        for (int[] row : rows) {
            GiftRing ring = chain(0);
            tell(ring, "h0");
            ring.treasure(0, row[0], 0);
            ring.season();
            due("worth " + row[0], ring.look(0, 2), -row[1]);
        }
    }

    private static void forEachTreasure() {
        about("each HOLDER has for each TREASURE .. less FAME");
        GiftRing ring = chain(0, 1);
        tell(ring, "h1");
        ring.treasure(0, 1, 0);
        ring.treasure(0, 11, 0);
        ring.treasure(1, 1, 0);
        ring.treasure(1, 5, 1);
        ring.season();
        ring.treasure(0, 999, 0);
        ring.season();
        due("each rounded up, the newer one not yet", ring.look(0, 2), -4);
        due("the other holder", ring.look(1, 2), -1);
        ring.season();
        due("the newer one too", ring.look(0, 2), -4 - 104);
    }

    private static void heldAnewAfterAGift() {
        about("SEASON, less that in which it came to him (by a gift)");
        GiftRing ring = chain(0, 1);
        tell(ring, "h2;d99");
        ring.treasure(0, 10, 0);
        seasons(ring, 2);
        due("give", ring.give(0, 1, 0), 0);
        due("told(0, 3)", ring.told(0, 3), 2);
        seasons(ring, 2);
        due("the receiver, just so long", ring.look(1, 2), 0);
        ring.season();
        due("the receiver, longer", ring.look(1, 2), -1);
        due("the giver", ring.look(0, 2), 10);
    }

    private static void whatIsLostCostsNothing() {
        about("A TREASURE is LOST: nobody holds it");
        GiftRing ring = chain(0, 1);
        tell(ring, "h0");
        ring.treasure(0, 10, 0);
        ring.treasure(0, 20, 0);
        ring.season();
        due("both", ring.look(0, 2), -3);
        due("lost", ring.lost(0), true);
        ring.season();
        due("one", ring.look(0, 2), -5);
        due("held", ring.look(0, 3), 1);
        due("told(0, 2)", ring.told(0, 2), NONE);
        due("soonest", ring.soonest(0, 0), NONE);
        due("closings", ring.closings(0), 0);
    }

    private static void aThousandSeasons() {
        about("NONE: it would be above 1000");
        GiftRing ring = chain(0, 1);
        ring.treasure(0, 10, 0);
        for (int s = 1; s <= 999; s++) {
            due("season", ring.season(), s);
        }
        due("season 1000", ring.season(), 1000);
        int fame = ring.look(0, 2);
        due("fame", fame, -994);
        due("season 1001", ring.season(), NONE);
        due("count(7)", ring.count(7), 1000);
        due("fame stays", ring.look(0, 2), fame);
        due("give", ring.give(0, 1, 0), 0);
        due("due above 1000", ring.debt(0, 4), 1004);
        due("season", ring.season(), NONE);
        due("given in this season", ring.told(0, 3), 1000);
    }

    private static void whoCanDie() {
        about("false: no such ones, he or the HEIR is not LIVING, not of one ISLAND, he is the HEIR");
        GiftRing ring = chain(0, 1, 0);
        for (int bad : new int[] {-1, 3, 16, 32, HIGH, LOW}) {
            due("dies(" + bad + ", 0)", ring.dies(bad, 0), false);
            due("dies(0, " + bad + ")", ring.dies(0, bad), false);
        }
        due("he is the heir", ring.dies(0, 0), false);
        due("of the next island", ring.dies(0, 1), false);
        due("of the island before", ring.dies(1, 0), false);
        due("count(2)", ring.count(2), 3);
        due("dies(2, 0)", ring.dies(2, 0), true);
        due("he is not living", ring.dies(2, 0), false);
        due("the heir is not living", ring.dies(0, 2), false);
        due("count(2)", ring.count(2), 2);
        due("look(2, 1)", ring.look(2, 1), 0);
        due("look(2, 0)", ring.look(2, 0), 0);
        due("the dead one of himself", ring.dies(2, 2), false);
    }

    private static void whatIsTheHeirs() {
        about("his TREASURES, DEBTS (what he OWES and what is OWED to him) and PARTNERS are the HEIR's");
        GiftRing ring = chain(5, 0, 1);
        ring.man(0);
        tell(ring, "p100;d1");
        ring.treasure(0, 10, 0);
        ring.treasure(0, 20, 1);
        ring.treasure(0, 30, 1);
        due("what he owes", ring.give(0, 1, 0), 0);
        due("what is owed to him", ring.give(1, 2, 1), 0);
        due("dies", ring.dies(1, 3), true);
        int[] heir = {0, 1, 0, 2, 1, 1, 0, 2};
        int[] dead = {0, 0, 20, 0, 0, 0, 0, 0};
        for (int what = 0; what < 8; what++) {
            due("look(3, " + what + ")", ring.look(3, what), heir[what]);
            due("look(1, " + what + ")", ring.look(1, what), dead[what]);
        }
        due("who owes", ring.debt(0, 0), 3);
        due("to whom", ring.debt(1, 1), 3);
        due("partners of 0", ring.look(0, 7), 1);
        due("partners of 2", ring.look(2, 7), 1);
        due("no quarrel yet", ring.quarrel(0, 3), 0);
        seasons(ring, 2);
        due("late ones of the heir", ring.look(3, 6), 1);
        due("late ones of the dead", ring.look(1, 6), 0);
        due("a quarrel of the heir", ring.quarrel(0, 3), 1);
        due("none of the dead", ring.quarrel(0, 1), 0);
        due("the heir returns", ring.give(3, 0, ring.treasure(1, 10, 3)), 1);
        due("and is given a return", ring.give(2, 3, ring.treasure(1, 20, 2)), 1);
    }

    private static void partnersOfBoth() {
        about("PARTNERS are the HEIR's (whom both have, once)");
        GiftRing ring = chain(0, 1, 0);
        ring.man(5);
        ring.partners(0, 3);
        due("look(2, 7) before", ring.look(2, 7), 1);
        due("look(1, 7) before", ring.look(1, 7), 2);
        due("dies", ring.dies(0, 2), true);
        due("look(2, 7)", ring.look(2, 7), 2);
        due("look(1, 7)", ring.look(1, 7), 1);
        due("look(3, 7)", ring.look(3, 7), 1);
        due("they are", ring.partners(2, 1), false);
        due("they are", ring.partners(3, 2), false);
    }

    private static void inheritedInThisSeason() {
        about("TREASURES come to him in this SEASON; whether they were given in it stays");
        GiftRing ring = chain(0, 1, 2);
        ring.man(1);
        ring.man(1);
        ring.treasure(0, 10, 0);
        ring.treasure(0, 10, 1);
        seasons(ring, 3);
        due("given in this season", ring.give(0, 1, 0), 0);
        due("dies", ring.dies(1, 3), true);
        due("told(0, 3)", ring.told(0, 3), 3);
        due("told(1, 3)", ring.told(1, 3), 3);
        due("given stays", ring.give(3, 2, 0), NONE);
        due("dies once more", ring.dies(3, 4), true);
        due("given stays", ring.give(4, 2, 0), NONE);
        due("not given stays", ring.give(4, 2, 1), 0);
        ring.season();
        due("in the next season", ring.give(4, 2, 0), 0);
        due("how many holders", ring.told(0, 4), 5);
    }

    private static void heldAnewAfterADeath() {
        about("SEASON, less that in which it came to him (by a death)");
        GiftRing ring = chain(0);
        ring.man(0);
        tell(ring, "h1");
        ring.treasure(0, 10, 0);
        ring.season();
        due("dies", ring.dies(0, 1), true);
        ring.season();
        due("the heir, just so long", ring.look(1, 2), 0);
        ring.season();
        due("the heir, longer", ring.look(1, 2), -1);
        due("fame of the dead stays", ring.look(0, 2), 0);
    }

    private static void noTreasureIsLostTwice() {
        about("false: no such one, it is");
        GiftRing ring = chain(0);
        due("lost(0) before", ring.lost(0), false);
        ring.treasure(0, 10, 0);
        ring.treasure(0, 10, 0);
        for (int bad : new int[] {-1, 2, 23, 24, HIGH, LOW}) {
            due("lost(" + bad + ")", ring.lost(bad), false);
        }
        due("lost(1), the last", ring.lost(1), true);
        due("lost(1)", ring.lost(1), false);
        due("count(4)", ring.count(4), 1);
        due("count(3)", ring.count(3), 2);
        due("lost(0)", ring.lost(0), true);
        due("count(4)", ring.count(4), 2);
    }

    private static void lostOnesAreNotInherited() {
        about("A TREASURE is LOST: nobody holds it (no heir, either)");
        GiftRing ring = chain(0);
        ring.man(0);
        ring.treasure(0, 10, 0);
        due("lost", ring.lost(0), true);
        due("dies", ring.dies(0, 1), true);
        due("told(0, 2)", ring.told(0, 2), NONE);
        due("told(0, 4)", ring.told(0, 4), 1);
        due("way(0, 1)", ring.way(0, 1), NONE);
        due("known(0, 0)", ring.known(0, 0), -2);
    }

    private static void stepsRoundTheRing() {
        about("so many SEASONS later as it is steps round the ring, the shorter way");
        for (int n = 3; n <= 8; n++) {
            for (int from = 0; from < n; from++) {
                GiftRing ring = closedRing(n);
                ring.treasure(0, 10, from);
                for (int season = 0; season <= n / 2; season++) {
                    newsOfOne(ring, n, from, season);
                    ring.season();
                }
            }
        }
    }

    private static void newsOfOne(GiftRing ring, int n, int from, int season) {
        for (int island = 0; island < n; island++) {
            int on = Math.floorMod(island - from, n);
            int steps = Math.min(on, n - on);
            due(n + " islands, made on " + from + ", season " + season + ", known(" + island + ", 0)",
                ring.known(island, 0), steps <= season ? from : NONE);
        }
    }

    private static void lossesAreNews() {
        about("NEWS .. LOST: .. on the ISLAND of who .. held it last");
        GiftRing ring = closedRing(8);
        ring.treasure(0, 10, 7);
        due("give", ring.give(7, 0, 0), 0);
        seasons(ring, 4);
        for (int island = 0; island < 8; island++) {
            due("known(" + island + ", 0)", ring.known(island, 0), 0);
        }
        due("lost", ring.lost(0), true);
        int[] steps = {0, 1, 2, 3, 4, 3, 2, 1};
        for (int season = 0; season <= 4; season++) {
            for (int island = 0; island < 8; island++) {
                due("season " + season + ", known(" + island + ", 0)", ring.known(island, 0),
                    steps[island] <= season ? -2 : 0);
            }
            ring.season();
        }
    }

    private static void theLastThatHappenedCounts() {
        about("Of several pieces of NEWS that have come the one that happened last counts");
        GiftRing ring = closedRing(3);
        ring.man(1);
        ring.treasure(0, 10, 0);
        due("made and given in one season", ring.give(0, 1, 0), 0);
        due("where it was given from", ring.known(0, 0), 0);
        due("where it is", ring.known(1, 0), 1);
        due("where neither is known", ring.known(2, 0), NONE);
        due("inherited in it, too", ring.dies(1, 3), true);
        due("at once", ring.known(1, 0), 3);
        due("lost in it, too", ring.lost(0), true);
        due("at once", ring.known(1, 0), -2);
        due("where it was made", ring.known(0, 0), 0);
        ring.season();
        for (int island = 0; island < 3; island++) {
            due("known(" + island + ", 0)", ring.known(island, 0), -2);
        }
    }

    /** A gift on towards an island is heard of there before what happened earlier, farther off. */
    private static void olderNewsThatComeLater() {
        about("the one that happened last counts (though an older one comes later)");
        GiftRing ring = closedRing(8);
        ring.treasure(0, 10, 0);
        due("give", ring.give(0, 1, 0), 0);
        int[][] want = {
            {0, 1, NONE, NONE, NONE, NONE, NONE, NONE},
            {1, 1, 1, NONE, NONE, NONE, NONE, 0},
            {1, 1, 1, 1, NONE, NONE, 0, 1},
            {1, 1, 1, 1, 1, 0, 1, 1},
            {1, 1, 1, 1, 1, 1, 1, 1},
        };
        for (int season = 0; season < want.length; season++) {
            for (int island = 0; island < 8; island++) {
                due("season " + season + ", known(" + island + ", 0)", ring.known(island, 0), want[season][island]);
            }
            ring.season();
        }
    }

    private static void newsOfManyGifts() {
        about("Of several pieces of NEWS that have come the one that happened last counts (of a long way)");
        GiftRing ring = closedRing(8);
        ring.treasure(0, 10, 0);
        for (int m = 0; m < 4; m++) {
            due("give", ring.give(m, m + 1, 0), 0);
            ring.season();
        }
        int[][] want = {
            {2, 3, 3, 4, 4, 4, 1, 2},
            {3, 3, 4, 4, 4, 4, 4, 2},
            {3, 4, 4, 4, 4, 4, 4, 4},
            {4, 4, 4, 4, 4, 4, 4, 4},
        };
        for (int later = 0; later < want.length; later++) {
            for (int island = 0; island < 8; island++) {
                due("season " + (4 + later) + ", known(" + island + ", 0)", ring.known(island, 0), want[later][island]);
            }
            ring.season();
        }
    }

    private static void nothingIsKnown() {
        about("NONE: nothing is known, no such ones");
        GiftRing ring = closedRing(4);
        ring.treasure(0, 10, 0);
        due("nothing is known yet", ring.known(2, 0), NONE);
        for (int bad : new int[] {-1, 1, 23, 24, HIGH, LOW}) {
            due("known(0, " + bad + ")", ring.known(0, bad), NONE);
        }
        for (int bad : new int[] {-1, -4, 4, 5, 8, HIGH, LOW}) {
            due("known(" + bad + ", 0)", ring.known(bad, 0), NONE);
        }
        due("lost", ring.lost(0), true);
        due("not that it is lost, either", ring.known(2, 0), NONE);
        ring.season();
        due("nor a season later", ring.known(2, 0), NONE);
        ring.season();
        due("two seasons later", ring.known(2, 0), -2);
    }

    private static void whoHeldIt() {
        about("The i-th HOLDER of TREASURE t (from 0 on: who held it first); NONE: there is none such");
        GiftRing ring = chain(0, 1);
        ring.man(1);
        ring.treasure(0, 10, 0);
        ring.treasure(0, 10, 1);
        due("way(0, 0)", ring.way(0, 0), 0);
        due("way(0, 1) before", ring.way(0, 1), NONE);
        ring.give(0, 1, 0);
        ring.dies(1, 2);
        int[] want = {0, 1, 2};
        for (int i = 0; i < 3; i++) {
            due("way(0, " + i + ")", ring.way(0, i), want[i]);
        }
        due("told(0, 4)", ring.told(0, 4), 3);
        for (int bad : new int[] {-1, 3, 63, 64, 65, 80, HIGH, LOW}) {
            due("way(0, " + bad + ")", ring.way(0, bad), NONE);
        }
        for (int bad : new int[] {-1, 2, 24, HIGH, LOW}) {
            due("way(" + bad + ", 0)", ring.way(bad, 0), NONE);
        }
        due("way(1, 1), the last", ring.way(1, 1), 2);
        ring.lost(0);
        due("of a lost one", ring.way(0, 2), 2);
        due("nobody holds it then", ring.way(0, 3), NONE);
    }

    private static void sixtyFourHolders() {
        about("64 are kept; a GIFT more can't be");
        GiftRing ring = smallRing();
        rounds(ring, 62);
        due("told(0, 4)", ring.told(0, 4), 63);
        due("way(0, 62)", ring.way(0, 62), 2);
        due("way(0, 63)", ring.way(0, 63), NONE);
        due("the 63rd gift", ring.give(2, 0, 0), 0);
        due("told(0, 4)", ring.told(0, 4), 64);
        due("way(0, 63)", ring.way(0, 63), 0);
        due("way(0, 64)", ring.way(0, 64), NONE);
        ring.season();
        int debts = ring.count(5);
        int fame = ring.look(0, 2);
        due("a gift more", ring.give(0, 1, 0), NONE);
        due("who holds it", ring.told(0, 2), 0);
        due("no debt", ring.count(5), debts);
        due("no fame", ring.look(0, 2), fame);
        due("another one can be given", ring.give(0, 1, ring.treasure(0, 5, 0)), 0);
    }

    private static void noReturnMoreEither() {
        about("a GIFT more can't be (a RETURN or MEANWHILE, either)");
        GiftRing ring = smallRing();
        rounds(ring, 63);
        ring.man(1);
        ring.partners(0, 3);
        due("3 opens for an armshell", ring.give(3, 0, ring.treasure(1, 5, 3)), 0);
        due("a return by the necklace that had 64", ring.give(0, 3, 0), NONE);
        due("3 opens for another", ring.give(3, 0, ring.treasure(1, 500, 3)), 0);
        due("a return by another necklace", ring.give(0, 3, ring.treasure(0, 5, 0)), 1);
        due("meanwhile by the one that had 64", ring.give(0, 3, 0), NONE);
        due("debt due", ring.debt(ring.count(5) - 1, 4), 63 + 99);
    }

    private static void aDeathMoreIsNotKept() {
        about("a DEATH more is not kept");
        GiftRing ring = smallRing();
        ring.man(2);
        ring.man(2);
        ring.man(2);
        rounds(ring, 62);
        due("a death is the 64th", ring.dies(2, 3), true);
        due("told(0, 4)", ring.told(0, 4), 64);
        due("way(0, 63)", ring.way(0, 63), 3);
        ring.season();
        due("a gift more", ring.give(3, 0, 0), NONE);
        due("a death more", ring.dies(3, 4), true);
        due("told(0, 2)", ring.told(0, 2), 4);
        due("told(0, 3)", ring.told(0, 3), 63);
        due("told(0, 4)", ring.told(0, 4), 64);
        due("way(0, 63)", ring.way(0, 63), 3);
        due("way(0, 64)", ring.way(0, 64), NONE);
        due("known(2, 0)", ring.known(2, 0), 4);
        due("known(1, 0)", ring.known(1, 0), 3);
        due("one more", ring.dies(4, 5), true);
        due("told(0, 2)", ring.told(0, 2), 5);
        due("way(0, 64)", ring.way(0, 64), NONE);
        due("a gift more", ring.give(5, 0, 0), NONE);
        due("lost", ring.lost(0), true);
        due("known(2, 0)", ring.known(2, 0), -2);
        ring.season();
        due("known(1, 0)", ring.known(1, 0), -2);
    }

    /** All others of an island die one after the other behind the last holder that is kept. */
    private static void manyDeathsMore() {
        about("a DEATH more is not kept (as many as can be)");
        GiftRing ring = smallRing();
        for (int m = 3; m < 16; m++) {
            ring.man(0);
        }
        rounds(ring, 63);
        due("dies(0, 3)", ring.dies(0, 3), true);
        for (int m = 3; m < 15; m++) {
            due("dies(" + m + ")", ring.dies(m, m + 1), true);
            due("told(0, 2)", ring.told(0, 2), m + 1);
            due("known(0, 0)", ring.known(0, 0), m + 1);
            ring.season();
            due("known(1, 0)", ring.known(1, 0), m + 1);
        }
        due("told(0, 4)", ring.told(0, 4), 64);
        due("count(2)", ring.count(2), 3);
        due("who owes", ring.look(15, 4), 21);
    }

    public static void main(String[] args) {
        heldLongerThanH();
        sixSeasonsAtFirst();
        aTenthRoundedUp();
        forEachTreasure();
        heldAnewAfterAGift();
        whatIsLostCostsNothing();
        aThousandSeasons();
        whoCanDie();
        whatIsTheHeirs();
        partnersOfBoth();
        inheritedInThisSeason();
        heldAnewAfterADeath();
        noTreasureIsLostTwice();
        lostOnesAreNotInherited();
        stepsRoundTheRing();
        lossesAreNews();
        theLastThatHappenedCounts();
        olderNewsThatComeLater();
        newsOfManyGifts();
        nothingIsKnown();
        whoHeldIt();
        sixtyFourHolders();
        noReturnMoreEither();
        aDeathMoreIsNotKept();
        manyDeathsMore();
        finish();
    }
}
