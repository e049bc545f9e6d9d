/** The document's sentences that bound islands, men, partners and treasures, a test for each. */
public final class BoundsOfTheRing extends RingTest {
    private static void sixIslandsAtFirst() {
        about("ISLANDS are N (.. 6 at first)");
        GiftRing ring = new GiftRing();
        due("count(0)", ring.count(0), 6);
        due("man(6)", ring.man(6), NONE);
        due("man(5)", ring.man(5), 0);
    }

    private static void threeToEightIslands() {
        about("ISLANDS are N (3 to 8 ..)");
        GiftRing ring = new GiftRing();
        due("islands(3)", ring.islands(3), true);
        due("islands(2)", ring.islands(2), false);
        due("count(0)", ring.count(0), 3);
        due("islands(4)", ring.islands(4), true);
        due("islands(7)", ring.islands(7), true);
        due("islands(8)", ring.islands(8), true);
        due("islands(9)", ring.islands(9), false);
        due("count(0)", ring.count(0), 8);
        for (int n : new int[] {0, -1, -3, -8, HIGH, LOW, LOW + 6}) {
            due("islands(" + n + ")", ring.islands(n), false);
        }
        due("the number that it has", ring.islands(8), true);
        due("count(0)", ring.count(0), 8);
    }

    private static void noOtherNumberOnceAManIsThere() {
        about("false: no such number, or a MAN is there");
        GiftRing ring = new GiftRing();
        due("a refused man is none", ring.man(6), NONE);
        due("islands(7)", ring.islands(7), true);
        due("man(6)", ring.man(6), 0);
        for (int n = 2; n <= 9; n++) {
            due("islands(" + n + ")", ring.islands(n), false);
        }
        due("count(0)", ring.count(0), 7);
        due("man(6) is still of an island", ring.man(6), 1);
        due("dies", ring.dies(0, 1), true);
        due("islands(6) with a dead man", ring.islands(6), false);
    }

    private static void islandsFromNullToOneBelowN() {
        about("0 to N - 1");
        for (int n = 3; n <= 8; n++) {
            GiftRing ring = new GiftRing();
            ring.islands(n);
            due(n + " islands, man(-1)", ring.man(-1), NONE);
            due(n + " islands, man(n)", ring.man(n), NONE);
            due(n + " islands, man(0)", ring.man(0), 0);
            due(n + " islands, man(n - 1)", ring.man(n - 1), 1);
            due("count(1)", ring.count(1), 2);
            ring.treasure(0, 1, 1);
            due(n + " islands, known(n - 1)", ring.known(n - 1, 0), 1);
            due(n + " islands, known(n)", ring.known(n, 0), NONE);
            due(n + " islands, known(-1)", ring.known(-1, 0), NONE);
            ring.season();
            due(n + " islands, known(0)", ring.known(0, 0), 1);
            due(n + " islands, known(n), a season later", ring.known(n, 0), NONE);
            due(n + " islands, known(-1), a season later", ring.known(-1, 0), NONE);
        }
    }

    private static void sixteenMen() {
        about("MEN 0 to 15, each of an ISLAND, LIVING at first");
        GiftRing ring = new GiftRing();
        for (int m = 0; m < 15; m++) {
            ring.man(m % 6);
        }
        due("look(15, 0) before", ring.look(15, 0), NONE);
        due("the sixteenth", ring.man(4), 15);
        due("his island", ring.look(15, 0), 4);
        due("living", ring.look(15, 1), 1);
        due("a seventeenth", ring.man(4), NONE);
        due("look(16, 0)", ring.look(16, 0), NONE);
        due("count(1)", ring.count(1), 16);
        due("count(2)", ring.count(2), 16);
        due("the sixteenth has partners", ring.partners(15, 5), true);
        due("and treasures", ring.treasure(0, 9, 15), 0);
        due("and gives", ring.give(15, 5, 0), 0);
    }

    private static void aDeadManKeepsHisNumber() {
        about("NONE: no such ISLAND, 16 are there");
        GiftRing ring = new GiftRing();
        for (int m = 0; m < 15; m++) {
            ring.man(0);
        }
        due("dies(3, 4)", ring.dies(3, 4), true);
        due("the next has a new number", ring.man(0), 15);
        due("the dead one is counted", ring.man(0), NONE);
        due("count(2)", ring.count(2), 15);
    }

    private static void partnersAreSideBySide() {
        about("PARTNERS are two LIVING MEN of ISLANDS side by side");
        for (int n = 3; n <= 8; n++) {
            GiftRing ring = new GiftRing();
            ring.islands(n);
            for (int m = 0; m < 2 * n; m++) {
                ring.man(m % n);
            }
            for (int a = 0; a < n; a++) {
                for (int b = n; b < 2 * n; b++) {
                    int on = Math.floorMod(b - a, n);
                    boolean beside = on == 1 || on == n - 1;
                    due(n + " islands, partners(" + a + ", " + b + ")", ring.partners(a, b), beside);
                    due("told again the other way", ring.partners(b, a), false);
                }
                due("look(" + a + ", 7)", ring.look(a, 7), 2);
            }
        }
    }

    private static void behindTheLastIslandComesTheFirst() {
        about("in a ring: behind the last one comes 0");
        for (int n = 3; n <= 8; n++) {
            GiftRing ring = closedRing(n);
            int last = n - 1;
            ring.treasure(0, 5, last);
            ring.treasure(0, 5, 0);
            ring.treasure(1, 5, 0);
            ring.treasure(1, 5, last);
            due(n + " islands, a necklace from 0 to the last", ring.give(0, last, 1), NONE);
            due(n + " islands, an armshell from the last to 0", ring.give(last, 0, 3), NONE);
            due(n + " islands, a necklace from the last to 0", ring.give(last, 0, 0), 0);
            due(n + " islands, soonest all round but one", ring.soonest(1, last), n - 1);
            due(n + " islands, an armshell from 0 to the last", ring.give(0, last, 2), 1);
        }
    }

    private static void partnersFromWhenItIsTold() {
        about("PARTNERS .. from when it is told");
        GiftRing ring = chain(0);
        ring.man(1);
        ring.treasure(0, 10, 0);
        due("give before", ring.give(0, 1, 0), NONE);
        due("soonest before", ring.soonest(0, 1), NONE);
        due("look(0, 7) before", ring.look(0, 7), 0);
        due("told", ring.partners(1, 0), true);
        due("look(0, 7)", ring.look(0, 7), 1);
        due("look(1, 7)", ring.look(1, 7), 1);
        due("soonest", ring.soonest(0, 1), 1);
        due("give", ring.give(0, 1, 0), 0);
    }

    private static void noSuchPartners() {
        about("false: no such ones, they are");
        GiftRing ring = chain(0, 1);
        ring.man(1);
        due("they are", ring.partners(0, 1), false);
        due("they are, the other way", ring.partners(1, 0), false);
        due("one man", ring.partners(0, 0), false);
        due("of one island", ring.partners(1, 2), false);
        for (int bad : new int[] {-1, 3, 15, 16, 31, 32, 34, HIGH, LOW}) {
            due("partners(0, " + bad + ")", ring.partners(0, bad), false);
            due("partners(" + bad + ", 0)", ring.partners(bad, 0), false);
            due("partners of " + bad + " twice", ring.partners(bad, bad), false);
        }
        due("the last number", ring.partners(2, 0), true);
        due("look(0, 7)", ring.look(0, 7), 2);
    }

    private static void theDeadAreNoPartners() {
        about("PARTNERS are two LIVING MEN");
        GiftRing ring = chain(0);
        ring.man(0);
        ring.man(1);
        due("dies(0, 1)", ring.dies(0, 1), true);
        due("partners(0, 2)", ring.partners(0, 2), false);
        due("partners(2, 0)", ring.partners(2, 0), false);
        due("partners(1, 2)", ring.partners(1, 2), true);
    }

    private static void aManCanHaveManyPartners() {
        about("PARTNERS of one man");
        GiftRing ring = new GiftRing();
        ring.man(1);
        for (int m = 1; m < 16; m++) {
            ring.man(m % 2 == 0 ? 0 : 2);
            due("partners(0, " + m + ")", ring.partners(0, m), true);
        }
        due("look(0, 7)", ring.look(0, 7), 15);
    }

    private static void twentyFourTreasures() {
        about("TREASURES 0 to 23");
        GiftRing ring = chain(0, 1);
        for (int t = 0; t < 23; t++) {
            ring.treasure(0, 10, 0);
        }
        due("told(23, 0) before", ring.told(23, 0), NONE);
        due("the 24th", ring.treasure(1, 20, 1), 23);
        due("told(23, 1)", ring.told(23, 1), 20);
        due("a 25th", ring.treasure(1, 20, 1), NONE);
        due("told(24, 0)", ring.told(24, 0), NONE);
        due("count(3)", ring.count(3), 24);
        due("lost(23)", ring.lost(23), true);
        due("a lost one keeps its number", ring.treasure(1, 20, 1), NONE);
        due("lost(24)", ring.lost(24), false);
    }

    private static void twoKinds() {
        about("0 NECKLACE, 1 ARMSHELL");
        GiftRing ring = chain(0);
        due("kind -1", ring.treasure(-1, 10, 0), NONE);
        due("kind 2", ring.treasure(2, 10, 0), NONE);
        due("kind HIGH", ring.treasure(HIGH, 10, 0), NONE);
        due("kind LOW", ring.treasure(LOW, 10, 0), NONE);
        due("count(3)", ring.count(3), 0);
        due("kind 0", ring.treasure(0, 10, 0), 0);
        due("kind 1", ring.treasure(1, 10, 0), 1);
        due("told(0, 0)", ring.told(0, 0), 0);
        due("told(1, 0)", ring.told(1, 0), 1);
    }

    private static void worthFromOneToNineHundredAndNinetyNine() {
        about("of a WORTH (1 to 999)");
        GiftRing ring = chain(0);
        int made = 0;
        for (int worth : new int[] {-1, 0, 1, 2, 998, 999, 1000, 1001, -999, HIGH, LOW}) {
            boolean can = worth >= 1 && worth <= 999;
            due("worth " + worth, ring.treasure(0, worth, 0), can ? made : NONE);
            if (can) {
                due("told(" + made + ", 1)", ring.told(made, 1), worth);
                made++;
            }
        }
        due("count(3)", ring.count(3), 4);
    }

    private static void aLivingManHoldsIt() {
        about("A TREASURE that a LIVING MAN holds");
        GiftRing ring = chain(0, 1);
        ring.man(0);
        due("man -1", ring.treasure(0, 10, -1), NONE);
        due("man 3", ring.treasure(0, 10, 3), NONE);
        due("man 2, the last", ring.treasure(0, 10, 2), 0);
        due("dies", ring.dies(2, 0), true);
        due("a dead man", ring.treasure(0, 10, 2), NONE);
        due("his heir", ring.treasure(0, 10, 0), 1);
        due("in an empty ring", new GiftRing().treasure(0, 10, 0), NONE);
    }

    private static void eachKindHasItsWayRound() {
        about("A NECKLACE is given to a PARTNER of the next ISLAND, an ARMSHELL to one of the ISLAND before");
        for (int n = 3; n <= 8; n++) {
            for (int from = 0; from < n; from++) {
                int next = (from + 1) % n;
                int before = (from + n - 1) % n;
                GiftRing ring = closedRing(n);
                ring.treasure(0, 10, from);
                ring.treasure(1, 10, from);
                String where = n + " islands, from " + from;
                due(where + ", a necklace back", ring.give(from, before, 0), NONE);
                due(where + ", an armshell on", ring.give(from, next, 1), NONE);
                due(where + ", a necklace to himself", ring.give(from, from, 0), NONE);
                due(where + ", a necklace on", ring.give(from, next, 0), 0);
                due(where + ", an armshell back", ring.give(from, before, 1), 0);
                due(where + ", who holds the necklace", ring.told(0, 2), next);
                due(where + ", who holds the armshell", ring.told(1, 2), before);
            }
        }
    }

    private static void aNewObjectIsEmpty() {
        about("No MEN, TREASURES; CUSTOM as at first. SEASON is 0 at first");
        GiftRing ring = new GiftRing();
        int[] want = {6, 0, 0, 0, 0, 0, 0, 0, 0, NONE, 80, 4, 2, 6};
        for (int what = 0; what < want.length; what++) {
            due("count(" + what + ")", ring.count(what), want[what]);
        }
        for (int i = 0; i < 8; i++) {
            due("look(0, " + i + ")", ring.look(0, i), NONE);
            due("told(0, " + i + ")", ring.told(0, i), NONE);
            due("debt(0, " + i + ")", ring.debt(0, i), NONE);
            due("closing(" + i + ")", ring.closing(i), NONE);
            due("known(" + i + ", 0)", ring.known(i, 0), NONE);
        }
        due("way(0, 0)", ring.way(0, 0), NONE);
        due("closings(0)", ring.closings(0), NONE);
        due("soonest(0, 0)", ring.soonest(0, 0), NONE);
        due("through(0, 0, 0)", ring.through(0, 0, 0), NONE);
        due("quarrel(0, 1)", ring.quarrel(0, 1), NONE);
        due("partners(0, 1)", ring.partners(0, 1), false);
        due("dies(0, 1)", ring.dies(0, 1), false);
        due("lost(0)", ring.lost(0), false);
        due("give(0, 1, 0)", ring.give(0, 1, 0), NONE);
        due("season()", ring.season(), 1);
    }

    public static void main(String[] args) {
        aNewObjectIsEmpty();
        sixIslandsAtFirst();
        threeToEightIslands();
        noOtherNumberOnceAManIsThere();
        islandsFromNullToOneBelowN();
        sixteenMen();
        aDeadManKeepsHisNumber();
        partnersAreSideBySide();
        behindTheLastIslandComesTheFirst();
        partnersFromWhenItIsTold();
        noSuchPartners();
        theDeadAreNoPartners();
        aManCanHaveManyPartners();
        twentyFourTreasures();
        twoKinds();
        worthFromOneToNineHundredAndNinetyNine();
        aLivingManHoldsIt();
        eachKindHasItsWayRound();
        finish();
    }
}
