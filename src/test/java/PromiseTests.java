/** One section a promise of the document: ordinary inputs, the edges that it names, wrong inputs. */
public final class PromiseTests extends RingTest {
    private static void aNewObject() {
        about("promise 1");
        GiftRing ring = new GiftRing();
        int[] want = {6, 0, 0, 0, 0, 0, 0, 0, 0, NONE, 80, 4, 2, 6, NONE};
        for (int what = 0; what < want.length; what++) {
            due("count(" + what + ")", ring.count(what), want[what]);
        }
        due("look(0, 0)", ring.look(0, 0), NONE);
        due("told(0, 0)", ring.told(0, 0), NONE);
        due("debt(0, 0)", ring.debt(0, 0), NONE);
        due("closing(0)", ring.closing(0), NONE);
        due("closings(0)", ring.closings(0), NONE);
        due("NONE", GiftRing.NONE, -1);
    }

    private static void tape() {
        about("promise 2");
        GiftRing ring = new GiftRing();
        due("feed", feed(ring, "p50;d7"), 20);
        due("feed again", ring.feed(0x80818283, -1, 0, HIGH, LOW), 40);
        due("a third feed", ring.feed(1, 2, 3, 4, 5), NONE);
        due("count(8)", ring.count(8), 40);
        due("custom(6)", ring.custom(6), 0);
        due("count(10)", ring.count(10), 50);
        due("count(11)", ring.count(11), 7);
        due("count(8)", ring.count(8), 0);
        due("feed", ring.feed(0x3b3b3b3b, 0, 0, 0, 0), 20);
        due("the second feed comes behind", feed(ring, "p1"), 40);
        due("custom(40)", ring.custom(40), 100);
    }

    private static void aTapeOfTwoFeeds() {
        about("promise 2");
        GiftRing ring = new GiftRing();
        due("a text over both feeds", tell(ring, "p1;p2;p3;p4;p5;p6;p7;p8;p9;d9;k9;h9;h11"), 0);
        due("p", ring.count(10), 9);
        due("d", ring.count(11), 9);
        due("k", ring.count(12), 9);
        due("h", ring.count(13), 11);
        due("a fault at place 39", tell(ring, "p1;p2;p3;p4;p5;p6;p7;p8;p9;d9;k9;h9;h11x"), 539);
        due("a fault at the end, place 40", tell(ring, "p1;p2;p3;p4;p5;p6;p7;p8;p9;d9;k9;h9;h11;"), 140);
    }

    private static void customAndFaults() {
        about("promise 3");
        String[] texts = {
            "", "x1", "P80", "p", "pp", "p;", "p0", "p301", "d0", "d100", "k100", "h100", "p1;", "p1;;d1",
            "p1x", "p1 ", " p1", "p 1", "p0x", "p00001", "p99999", "p00000", "p0000", "p9999x", "d1d1", "p1;d",
            "p1;d0", "k1,h1", "p-1", "p0300", "\u00f0001", "p1\0", "p/", "p:", "p1;h12345;x", "d4;p301;x",
        };
        int[] want = {
            100, 100, 100, 201, 201, 201, 401, 401, 401, 401, 401, 401, 103, 103,
            502, 502, 100, 201, 401, 305, 305, 305, 401, 401, 502, 204,
            404, 502, 201, 0, 100, 502, 201, 201, 308, 404,
        };
        for (int i = 0; i < texts.length; i++) {
            due("custom of '" + texts[i] + "'", tell(new GiftRing(), texts[i]), want[i]);
        }
        GiftRing ring = new GiftRing();
        due("the edges above", tell(ring, "p300;d99;k99;h99"), 0);
        due("p", ring.count(10), 300);
        due("h", ring.count(13), 99);
        due("a fault late in the text", tell(ring, "p5;d5;k5;h100"), 410);
        due("tape is empty after a fault", ring.count(8), 0);
        due("p stays", ring.count(10), 300);
        due("d stays", ring.count(11), 99);
        due("the edges below", tell(ring, "p1;d1;k0;h0"), 0);
        due("k", ring.count(12), 0);
        due("the later one counts", tell(ring, "p7;p8"), 0);
        due("p", ring.count(10), 8);
        due("what no clause tells", ring.count(11), 4);
        due("what no clause tells", ring.count(13), 6);
        feed(ring, "p9");
        due("custom(21)", ring.custom(21), NONE);
        due("custom(-1)", ring.custom(-1), NONE);
        due("custom(HIGH)", ring.custom(HIGH), NONE);
        due("custom(LOW)", ring.custom(LOW), NONE);
        due("the tape stays", ring.count(8), 20);
        due("custom(2)", ring.custom(2), 0);
        due("p", ring.count(10), 9);
    }

    private static void islands() {
        about("promise 4");
        GiftRing ring = new GiftRing();
        for (int n : new int[] {2, 9, 0, -3, HIGH, LOW}) {
            due("islands(" + n + ")", ring.islands(n), false);
        }
        due("count(0)", ring.count(0), 6);
        for (int n = 3; n <= 8; n++) {
            due("islands(" + n + ")", ring.islands(n), true);
            due("count(0)", ring.count(0), n);
        }
        due("man(7)", ring.man(7), 0);
        due("islands(8)", ring.islands(8), false);
        due("islands(5)", ring.islands(5), false);
        due("count(0)", ring.count(0), 8);
    }

    private static void men() {
        about("promise 5");
        GiftRing ring = new GiftRing();
        for (int island : new int[] {-1, 6, HIGH, LOW}) {
            due("man(" + island + ")", ring.man(island), NONE);
        }
        for (int m = 0; m < 16; m++) {
            due("man " + m, ring.man(m % 6), m);
            due("his island", ring.look(m, 0), m % 6);
            due("living", ring.look(m, 1), 1);
        }
        due("one more", ring.man(0), NONE);
        due("dies(0, 6)", ring.dies(0, 6), true);
        due("the dead count", ring.man(0), NONE);
        due("count(1)", ring.count(1), 16);
        due("count(2)", ring.count(2), 15);
    }

    private static void partners() {
        about("promise 6");
        GiftRing ring = new GiftRing();
        ring.islands(4);
        for (int m = 0; m < 5; m++) {
            ring.man(m % 4);
        }
        due("partners(0, 3) over the end", ring.partners(0, 3), true);
        due("partners(3, 0)", ring.partners(3, 0), false);
        due("partners(0, 2) across", ring.partners(0, 2), false);
        due("partners(0, 4) on one island", ring.partners(0, 4), false);
        due("partners(1, 1)", ring.partners(1, 1), false);
        due("partners(2, 1)", ring.partners(2, 1), true);
        for (int m : new int[] {-1, 5, 32, 33, HIGH, LOW}) {
            due("partners(0, " + m + ")", ring.partners(0, m), false);
            due("partners(" + m + ", 0)", ring.partners(m, 0), false);
        }
        due("look(0, 7)", ring.look(0, 7), 1);
        due("look(1, 7)", ring.look(1, 7), 1);
        due("dies(0, 4)", ring.dies(0, 4), true);
        due("partners(0, 1) of a dead one", ring.partners(0, 1), false);
        due("partners(1, 0) of a dead one", ring.partners(1, 0), false);
        due("partners(4, 3), inherited", ring.partners(4, 3), false);
        GiftRing three = new GiftRing();
        three.islands(3);
        three.man(0);
        three.man(1);
        three.man(2);
        due("all are side by side", three.partners(0, 2) && three.partners(1, 2) && three.partners(0, 1), true);
    }

    private static void treasures() {
        about("promise 7");
        GiftRing ring = chain(0, 1, 0);
        for (int bad : new int[] {-1, 2, HIGH, LOW}) {
            due("kind " + bad, ring.treasure(bad, 5, 0), NONE);
        }
        for (int bad : new int[] {0, -1, 1000, HIGH, LOW}) {
            due("worth " + bad, ring.treasure(0, bad, 0), NONE);
        }
        for (int bad : new int[] {-1, 3, HIGH, LOW}) {
            due("man " + bad, ring.treasure(0, 5, bad), NONE);
        }
        ring.dies(2, 0);
        due("a dead man", ring.treasure(0, 5, 2), NONE);
        for (int t = 0; t < 24; t++) {
            due("treasure " + t, ring.treasure(t % 2, t == 0 ? 1 : 999, t % 2), t);
        }
        due("a 25th", ring.treasure(0, 5, 0), NONE);
        due("lost(3)", ring.lost(3), true);
        due("a lost one still counts", ring.treasure(0, 5, 0), NONE);
        due("count(3)", ring.count(3), 24);
        due("told(0, 1)", ring.told(0, 1), 1);
        due("told(1, 0)", ring.told(1, 0), 1);
        due("told(1, 2)", ring.told(1, 2), 1);
    }

    private static void giftsThatCantBe() {
        about("promise 8");
        GiftRing ring = chain(0, 1, 2);
        ring.man(1);
        ring.man(5);
        ring.partners(0, 4);
        ring.treasure(0, 10, 0);
        ring.treasure(1, 10, 0);
        due("to himself", ring.give(0, 0, 0), NONE);
        due("not his", ring.give(1, 2, 0), NONE);
        due("no partner", ring.give(0, 3, 0), NONE);
        due("a necklace back", ring.give(0, 4, 0), NONE);
        due("an armshell on", ring.give(0, 1, 1), NONE);
        for (int bad : new int[] {-1, 5, 16, 32, 33, HIGH, LOW}) {
            due("give(" + bad + ", 1, 0)", ring.give(bad, 1, 0), NONE);
            due("give(0, " + bad + ", 0)", ring.give(0, bad, 0), NONE);
            due("give(0, 1, " + bad + ")", ring.give(0, 1, bad), NONE);
        }
        due("refused ones change nothing", ring.count(5) + ring.look(0, 2), 0);
        due("a necklace on", ring.give(0, 1, 0), 0);
        due("an armshell back over the end", ring.give(0, 4, 1), 0);
        due("twice in a season", ring.give(1, 2, 0), NONE);
        ring.season();
        due("in the next season", ring.give(1, 2, 0), 0);
        ring.lost(1);
        ring.season();
        due("a lost one", ring.give(4, 0, 1), NONE);
    }

    private static void openings() {
        about("promise 8");
        GiftRing ring = chain(0, 1);
        ring.treasure(0, 1, 0);
        ring.treasure(0, 999, 0);
        ring.treasure(0, 101, 0);
        seasons(ring, 3);
        due("worth 1", ring.give(0, 1, 0), 0);
        due("need is rounded up", ring.debt(0, 3), 1);
        due("due", ring.debt(0, 4), 7);
        tell(ring, "p300;d99");
        due("worth 999", ring.give(0, 1, 1), 0);
        due("need by custom then", ring.debt(1, 3), 2997);
        due("due by custom then", ring.debt(1, 4), 102);
        due("an earlier debt stays", ring.debt(0, 3), 1);
        tell(ring, "p1");
        due("worth 101", ring.give(0, 1, 2), 0);
        due("need", ring.debt(2, 3), 2);
        due("fame", ring.look(0, 2), 1101);
        due("fame of the receiver", ring.look(1, 2), 0);
    }

    private static void returns() {
        about("promise 8");
        GiftRing ring = chain(0, 1);
        int[] worths = {50, 30, 50, 40};
        for (int t = 0; t < 4; t++) {
            ring.treasure(0, worths[t], 0);
        }
        tell(ring, "p100");
        for (int t = 0; t < 4; t++) {
            due("opening", ring.give(0, 1, t), 0);
        }
        for (int worth : new int[] {49, 50, 29, 999, 50}) {
            ring.treasure(1, worth, 1);
        }
        due("the greatest not above 49", ring.give(1, 0, 4), 1);
        due("is 3", ring.debt(3, 7), 4);
        due("of like ones", ring.give(1, 0, 5), 1);
        due("the first", ring.debt(0, 7), 5);
        due("the other stays", ring.debt(2, 7), NONE);
        due("below all", ring.give(1, 0, 6), 2);
        due("the first open one wins", ring.debt(1, 4), 6);
        due("the other doesn't", ring.debt(2, 4), 4);
        due("above all", ring.give(1, 0, 7), 1);
        due("closes the greatest", ring.debt(2, 7), 7);
        due("the last", ring.give(1, 0, 8), 1);
        due("closes 1", ring.debt(1, 7), 8);
        due("fame", ring.look(1, 2), 49 + 50 + 14 + 999 + 50);
        due("open", ring.count(6), 0);
    }

    private static void meanwhile() {
        about("promise 8");
        GiftRing ring = chain(0, 1);
        ring.treasure(0, 100, 0);
        for (int worth : new int[] {79, 5, 1, 80}) {
            ring.treasure(1, worth, 1);
        }
        ring.give(0, 1, 0);
        tell(ring, "k7");
        due("meanwhile", ring.give(1, 0, 1), 2);
        due("by custom then", ring.debt(0, 4), 11);
        due("half, rounded down", ring.look(1, 2), 39);
        due("nothing is won", ring.give(1, 0, 2), 2);
        due("due stays", ring.debt(0, 4), 11);
        due("fame all the same", ring.look(1, 2), 41);
        due("half of 1", ring.give(1, 0, 3), 2);
        due("is 0", ring.look(1, 2), 41);
        due("a return", ring.give(1, 0, 4), 1);
        due("meanwhile opened nothing", ring.count(5), 1);
    }

    private static void likeKindOpens() {
        about("promise 8");
        GiftRing ring = chain(0, 1, 2);
        ring.treasure(0, 100, 0);
        ring.treasure(0, 100, 1);
        ring.treasure(1, 100, 2);
        ring.give(0, 1, 0);
        due("the same kind to another", ring.give(1, 2, 1), 0);
        due("a return to 1", ring.give(2, 1, 2), 1);
        ring.season();
        due("a return to 0", ring.give(1, 0, 2), 1);
        ring.season();
        due("nothing is owed: nobody behind 0", ring.give(0, 1, 2), NONE);
        due("count(5)", ring.count(5), 2);
    }

    private static void quarrelsAllowReturnsAlone() {
        about("promise 8");
        GiftRing ring = chain(0, 1);
        ring.treasure(0, 100, 0);
        ring.treasure(0, 10, 0);
        ring.treasure(1, 79, 1);
        ring.treasure(1, 80, 1);
        ring.treasure(0, 10, 0);
        ring.treasure(1, 8, 1);
        ring.give(0, 1, 0);
        seasons(ring, 4);
        due("an opening in the due season", ring.give(0, 1, 4), 0);
        due("its return", ring.give(1, 0, 5), 1);
        ring.season();
        due("quarrel", ring.quarrel(0, 1), 1);
        due("an opening by the creditor", ring.give(0, 1, 1), NONE);
        due("meanwhile by the debtor", ring.give(1, 0, 2), NONE);
        due("it may still be given", ring.told(2, 2), 1);
        due("due is not won", ring.debt(0, 4), 4);
        due("a return", ring.give(1, 0, 3), 1);
        due("then an opening", ring.give(0, 1, 1), 0);
        due("and a return", ring.give(1, 0, 2), 1);
    }

    private static void twoHundredDebts() {
        about("promise 8");
        GiftRing ring = ringOfDebts(200);
        due("count(5)", ring.count(5), 200);
        due("debt(199, 0)", ring.debt(199, 0), 0);
        due("one more", ring.give(2, 0, 20), NONE);
        due("debt(200, 0)", ring.debt(200, 0), NONE);
        due("it stays", ring.told(20, 2), 2);
        due("an armshell", ring.treasure(1, 99, 2), 23);
        due("a return can be", ring.give(2, 1, 23), 1);
        due("closes the first", ring.debt(23, 7), 23);
        ring.season();
        due("and one more", ring.give(1, 0, 23), 1);
        due("closes the first", ring.debt(0, 7), 23);
    }

    private static void seasonsGoBy() {
        about("promise 9");
        GiftRing ring = chain(0, 1);
        ring.treasure(0, 11, 0);
        ring.treasure(0, 10, 0);
        ring.treasure(1, 1, 1);
        for (int s = 1; s <= 6; s++) {
            due("season", ring.season(), s);
        }
        due("held just so long", ring.look(0, 2), 0);
        due("season 7", ring.season(), 7);
        due("fame may be below 0", ring.look(0, 2), -3);
        due("fame that is NONE", ring.look(1, 2), -1);
        ring.give(0, 1, 0);
        due("season 8", ring.season(), 8);
        due("what he gave is not held", ring.look(0, 2), -3 + 11 - 1);
        due("held anew", ring.look(1, 2), -2);
        tell(ring, "h0");
        ring.lost(1);
        due("season 9", ring.season(), 9);
        due("a lost one costs nothing", ring.look(0, 2), 7);
        due("h by custom then", ring.look(1, 2), -5);
        seasons(ring, 990);
        due("season 1000", ring.season(), 1000);
        int fame = ring.look(1, 2);
        due("season 1001", ring.season(), NONE);
        due("stays", ring.count(7), 1000);
        due("fame stays", ring.look(1, 2), fame);
    }

    private static void deaths() {
        about("promise 10");
        GiftRing ring = new GiftRing();
        int[] home = {0, 0, 1, 1, 5, 0};
        for (int island : home) {
            ring.man(island);
        }
        ring.partners(0, 2);
        ring.partners(0, 4);
        ring.partners(1, 2);
        ring.partners(3, 0);
        ring.treasure(0, 100, 0);
        ring.treasure(1, 60, 2);
        ring.treasure(0, 60, 0);
        ring.treasure(0, 5, 0);
        ring.lost(3);
        due("0 gives", ring.give(0, 2, 0), 0);
        due("2 gives", ring.give(2, 0, 1), 2);
        for (int bad : new int[] {-1, 6, 32, HIGH, LOW}) {
            due("no such man " + bad, ring.dies(bad, 1), false);
            due("no such heir " + bad, ring.dies(0, bad), false);
        }
        due("he is the heir", ring.dies(0, 0), false);
        due("another island", ring.dies(0, 2), false);
        due("dies", ring.dies(0, 1), true);
        due("again", ring.dies(0, 1), false);
        due("a dead heir", ring.dies(1, 0), false);
        due("living", ring.look(0, 1), 0);
        due("partners of the dead", ring.look(0, 7), 0);
        due("partners of the heir", ring.look(1, 7), 3);
        due("partners of 2", ring.look(2, 7), 1);
        due("partners of 3", ring.look(3, 7), 1);
        due("treasures of the dead", ring.look(0, 3), 0);
        due("treasures of the heir", ring.look(1, 3), 2);
        due("the lost one stays", ring.told(3, 4), 1);
        due("fame is not inherited", ring.look(1, 2), 0);
        due("fame stays", ring.look(0, 2), 100);
        due("the debt is owed to the heir", ring.debt(0, 1), 1);
        due("given in this season stays", ring.give(1, 4, 1), NONE);
        due("not given in this season stays", ring.give(1, 2, 2), 0);
        due("the debtor dies", ring.dies(2, 3), true);
        due("his heir owes", ring.debt(0, 0), 3);
        due("open ones", ring.look(3, 4), 2);
        due("none of the dead", ring.look(2, 4), 0);
        ring.season();
        due("then it can be given", ring.give(1, 4, 1), 0);
    }

    private static void closedDebtsAreInheritedToo() {
        about("promise 10");
        GiftRing ring = chain(0, 1);
        ring.man(0);
        ring.man(1);
        ring.treasure(0, 100, 0);
        ring.treasure(1, 90, 1);
        ring.give(0, 1, 0);
        ring.give(1, 0, 1);
        due("dies(0, 2)", ring.dies(0, 2), true);
        due("dies(1, 3)", ring.dies(1, 3), true);
        due("debt(0, 0)", ring.debt(0, 0), 3);
        due("debt(0, 1)", ring.debt(0, 1), 2);
        due("debt(0, 5)", ring.debt(0, 5), 1);
    }

    private static void inheritedAnew() {
        about("promise 10");
        GiftRing ring = chain(0, 1, 0);
        ring.treasure(0, 10, 0);
        seasons(ring, 5);
        ring.dies(0, 2);
        due("came to him", ring.told(0, 3), 5);
        seasons(ring, 6);
        due("not held longer than h", ring.look(2, 2), 0);
        ring.season();
        due("held longer", ring.look(2, 2), -1);
    }

    private static void losses() {
        about("promise 11");
        GiftRing ring = chain(0, 1);
        ring.treasure(0, 10, 0);
        ring.treasure(0, 10, 0);
        for (int bad : new int[] {-1, 2, 24, HIGH, LOW}) {
            due("lost(" + bad + ")", ring.lost(bad), false);
        }
        due("lost(0)", ring.lost(0), true);
        due("lost(0)", ring.lost(0), false);
        due("told(0, 2)", ring.told(0, 2), NONE);
        due("told(0, 1)", ring.told(0, 1), 10);
        due("look(0, 3)", ring.look(0, 3), 1);
        due("count(4)", ring.count(4), 1);
        due("count(3)", ring.count(3), 2);
        due("give", ring.give(0, 1, 0), NONE);
        due("told(0, 4)", ring.told(0, 4), 1);
    }

    private static void news() {
        about("promise 12");
        GiftRing ring = chain(0, 1);
        ring.treasure(0, 10, 0);
        for (int island : new int[] {-1, 6, HIGH, LOW}) {
            due("known(" + island + ", 0)", ring.known(island, 0), NONE);
        }
        for (int t : new int[] {-1, 1, HIGH, LOW}) {
            due("known(0, " + t + ")", ring.known(0, t), NONE);
        }
        int[] steps = {0, 1, 2, 3, 2, 1};
        for (int s = 0; s <= 3; s++) {
            for (int island = 0; island < 6; island++) {
                due("season " + s + ", known(" + island + ", 0)", ring.known(island, 0), steps[island] <= s ? 0 : NONE);
            }
            ring.season();
        }
        ring.give(0, 1, 0);
        due("at once where it is", ring.known(1, 0), 1);
        due("not yet where it was", ring.known(0, 0), 0);
        ring.season();
        due("known(0, 0)", ring.known(0, 0), 1);
        due("known(2, 0)", ring.known(2, 0), 1);
        due("known(5, 0)", ring.known(5, 0), 0);
        ring.lost(0);
        due("known(1, 0)", ring.known(1, 0), -2);
        due("known(0, 0)", ring.known(0, 0), 1);
        due("known(4, 0)", ring.known(4, 0), 0);
        ring.season();
        due("known(0, 0)", ring.known(0, 0), -2);
        due("known(5, 0)", ring.known(5, 0), 1);
        due("known(4, 0)", ring.known(4, 0), 0);
        seasons(ring, 2);
        due("known(4, 0)", ring.known(4, 0), -2);
    }

    private static void inheritedNews() {
        about("promise 12");
        GiftRing ring = chain(0, 1, 0);
        ring.treasure(0, 10, 0);
        ring.season();
        due("dies", ring.dies(0, 2), true);
        due("known(0, 0)", ring.known(0, 0), 2);
        due("known(1, 0)", ring.known(1, 0), 0);
        due("the heir has his partners", ring.partners(1, 2), false);
        ring.season();
        due("known(1, 0)", ring.known(1, 0), 2);
    }

    private static void theLastThatHappenedCounts() {
        about("promise 12");
        GiftRing ring = chain(0, 1, 2, 3);
        ring.treasure(0, 10, 0);
        int[][] want = {
            {0, 1, NONE, NONE, NONE, NONE},
            {1, 1, 2, NONE, NONE, 0},
            {1, 2, 2, 3, 0, 1},
            {2, 2, 3, 3, 3, 1},
            {2, 3, 3, 3, 3, 3},
            {3, 3, 3, 3, 3, 3},
        };
        for (int s = 0; s < want.length; s++) {
            if (s < 3) {
                due("give", ring.give(s, s + 1, 0), 0);
            }
            for (int island = 0; island < 6; island++) {
                due("season " + s + ", known(" + island + ", 0)", ring.known(island, 0), want[s][island]);
            }
            ring.season();
        }
    }

    private static void ways() {
        about("promise 13");
        GiftRing ring = smallRing();
        ring.man(0);
        ring.man(1);
        due("way(0, 0)", ring.way(0, 0), 0);
        for (int bad : new int[] {-1, 1, HIGH, LOW}) {
            due("way(0, " + bad + ")", ring.way(0, bad), NONE);
            due("way(" + bad + ", 0)", ring.way(bad, 0), NONE);
        }
        due("63 gifts", rounds(ring, 63), 0);
        due("told(0, 4)", ring.told(0, 4), 64);
        for (int i = 0; i < 64; i++) {
            due("way(0, " + i + ")", ring.way(0, i), i % 3);
        }
        due("way(0, 64)", ring.way(0, 64), NONE);
        due("a gift more", ring.give(0, 1, 0), NONE);
        due("holder", ring.told(0, 2), 0);
        due("a death more", ring.dies(0, 3), true);
        due("the heir holds it", ring.told(0, 2), 3);
        due("is not kept", ring.way(0, 64), NONE);
        due("the last that is kept", ring.way(0, 63), 0);
        due("told(0, 4)", ring.told(0, 4), 64);
        due("known(0, 0)", ring.known(0, 0), 3);
        due("known(1, 0)", ring.known(1, 0), 0);
        ring.season();
        due("known(1, 0)", ring.known(1, 0), 3);
        due("lost", ring.lost(0), true);
        due("known(0, 0)", ring.known(0, 0), -2);
        due("way(0, 63)", ring.way(0, 63), 0);
    }

    private static void closings() {
        about("promise 14");
        GiftRing ring = debtor(new int[] {40, 20}, new int[] {});
        closingRow(ring, 0, NONE, NONE);
        ring.treasure(0, 50, 1);
        closingRow(ring, 1, 2, NONE);
        ring.treasure(0, 30, 1);
        closingRow(ring, 2, 2, 3);
        ring.treasure(0, 20, 1);
        closingRow(ring, 2, 2, 4);
        ring.treasure(0, 20, 1);
        closingRow(ring, 2, 2, 4);
        ring.treasure(0, 40, 1);
        closingRow(ring, 2, 6, 4);
        ring.treasure(1, 40, 1);
        closingRow(ring, 2, 6, 4);
        due("one is lost", ring.lost(4), true);
        closingRow(ring, 2, 6, 5);
        due("one is given", ring.give(1, 2, 6), 1);
        closingRow(ring, 1, 5);
        for (int bad : new int[] {-1, 3, HIGH, LOW}) {
            due("closings(" + bad + ")", ring.closings(bad), NONE);
        }
        due("one who owes nothing", ring.closings(0), 0);
        due("has no row", ring.closing(0), NONE);
        ring.man(1);
        due("dies", ring.dies(2, 3), true);
        due("a dead man", ring.closings(2), NONE);
    }

    private static void mostDebtsThenLeastWorth() {
        about("promise 14");
        GiftRing ring = debtor(new int[] {10, 30}, new int[] {});
        ring.treasure(0, 20, 1);
        ring.treasure(0, 35, 1);
        closingRow(ring, 2, 2, 3);
        GiftRing one = debtor(new int[] {30, 10}, new int[] {});
        one.treasure(0, 30, 1);
        closingRow(one, 1, 2, NONE);
        GiftRing less = debtor(new int[] {30, 10}, new int[] {});
        less.treasure(0, 30, 1);
        less.treasure(0, 29, 1);
        closingRow(less, 2, 2, 3);
        GiftRing like = debtor(new int[] {10, 10}, new int[] {});
        like.treasure(0, 15, 1);
        like.treasure(0, 15, 1);
        like.treasure(0, 12, 1);
        closingRow(like, 2, 2, 4);
        GiftRing both = debtor(new int[] {10}, new int[] {10});
        both.treasure(0, 15, 1);
        both.treasure(1, 14, 1);
        closingRow(both, 2, 3, 2);
    }

    private static void firstEightAndSix() {
        about("promise 14");
        GiftRing ring = debtor(new int[] {10, 11, 12, 13, 14, 15, 5}, new int[] {});
        for (int i = 0; i < 8; i++) {
            ring.treasure(0, 9, 1);
        }
        ring.treasure(0, 99, 1);
        closingRow(ring, 0, NONE, NONE, NONE, NONE, NONE, NONE);
        ring.lost(7);
        closingRow(ring, 1, 15, NONE, NONE, NONE, NONE, NONE);
    }

    private static void whatWasGivenIsNotOneOfTheEight() {
        about("promise 14");
        GiftRing ring = debtor(new int[] {10}, new int[] {});
        for (int i = 0; i < 8; i++) {
            due("opening", ring.give(0, 1, ring.treasure(0, 1, 0)), 0);
        }
        ring.treasure(0, 10, 1);
        closingRow(ring, 1, 9, NONE, NONE, NONE, NONE, NONE);
        ring.season();
        closingRow(ring, 1, NONE, 0, NONE, NONE, NONE, NONE);
    }

    private static void aTreasureWithNoGiftLeft() {
        about("promise 14");
        GiftRing ring = smallRing();
        ring.man(1);
        ring.partners(0, 3);
        ring.treasure(1, 1, 3);
        due("3 opens", ring.give(3, 0, 1), 0);
        rounds(ring, 60);
        due("61 holders", ring.told(0, 4), 61);
        due("it can be given", ring.closings(0), 1);
        due("closing(0)", ring.closing(0), 0);
        rounds(ring, 3);
        due("64 holders", ring.told(0, 4), 64);
        due("it can't be given", ring.closings(0), 0);
        due("closing(0)", ring.closing(0), NONE);
        about("promise 16");
        due("soonest asks the partners alone", ring.soonest(0, 3), 1);
    }

    private static void closingIsTheLatest() {
        about("promise 15");
        GiftRing ring = debtor(new int[] {10, 20}, new int[] {});
        due("before closings", ring.closing(0), NONE);
        ring.treasure(0, 20, 1);
        due("closings(1)", ring.closings(1), 1);
        due("closing(0)", ring.closing(0), 2);
        due("closing(1)", ring.closing(1), NONE);
        due("closings(9)", ring.closings(9), NONE);
        due("the latest that was not NONE", ring.closing(0), 2);
        ring.give(1, 2, 2);
        due("as it was then", ring.closing(0), 2);
        for (int bad : new int[] {-1, 2, 6, HIGH, LOW}) {
            due("closing(" + bad + ")", ring.closing(bad), NONE);
        }
        due("closings(0)", ring.closings(0), 0);
        due("closing(0)", ring.closing(0), NONE);
    }

    private static void soonestAndThrough() {
        about("promise 16");
        GiftRing ring = new GiftRing();
        ring.islands(4);
        int[] home = {0, 1, 1, 2, 2, 3, 0, 1};
        for (int island : home) {
            ring.man(island);
        }
        int[][] pairs = {{0, 2}, {0, 1}, {1, 4}, {2, 3}, {2, 4}, {4, 5}, {3, 5}, {5, 6}};
        for (int[] pair : pairs) {
            ring.partners(pair[0], pair[1]);
        }
        ring.treasure(0, 10, 0);
        ring.treasure(1, 10, 0);
        due("soonest(0, 5)", ring.soonest(0, 5), 3);
        int[] row = {0, 1, 4, 5};
        about("promise 17");
        for (int i = 0; i < row.length; i++) {
            due("through(0, 5, " + i + ")", ring.through(0, 5, i), row[i]);
        }
        for (int bad : new int[] {-1, 4, HIGH, LOW}) {
            due("through(0, 5, " + bad + ")", ring.through(0, 5, bad), NONE);
            due("through(0, 4, no man on the way)", ring.through(0, 5 + 100, bad), NONE);
        }
        due("through(0, 3, 1)", ring.through(0, 3, 1), 2);
        due("through(0, 0, 0)", ring.through(0, 0, 0), 0);
        due("through(0, 0, 1)", ring.through(0, 0, 1), NONE);
        due("through(1, 1, 0)", ring.through(1, 1, 0), NONE);
        about("promise 16");
        due("all round", ring.soonest(0, 6), 4);
        due("0: he holds it", ring.soonest(0, 0), 0);
        due("no way", ring.soonest(0, 7), NONE);
        due("the other way round", ring.soonest(1, 1), NONE);
        for (int bad : new int[] {-1, 8, HIGH, LOW}) {
            due("soonest(0, " + bad + ")", ring.soonest(0, bad), NONE);
            due("soonest(" + bad + ", 0)", ring.soonest(bad, 0), NONE);
        }
        ring.give(0, 2, 0);
        due("given in this season is not asked", ring.soonest(0, 6), 3);
        seasons(ring, 9);
        due("quarrels are not asked", ring.soonest(0, 6), 3);
        due("dies", ring.dies(4, 3), true);
        due("a dead man", ring.soonest(0, 4), NONE);
        due("through his heir", ring.through(0, 6, 1), 3);
        due("lost", ring.lost(0), true);
        due("soonest of a lost one", ring.soonest(0, 2), NONE);
        due("through of a lost one", ring.through(0, 2, 0), NONE);
    }

    /** A way of fifteen gifts, as long as one can be. */
    private static void theLongestWay() {
        about("promise 16");
        int[] home = new int[16];
        for (int m = 0; m < 16; m++) {
            home[m] = m % 6;
        }
        GiftRing ring = chain(home);
        ring.treasure(0, 1, 0);
        ring.treasure(1, 1, 15);
        due("on", ring.soonest(0, 15), 15);
        due("back", ring.soonest(1, 0), 15);
        about("promise 17");
        for (int i = 0; i < 16; i++) {
            due("through(0, 15, " + i + ")", ring.through(0, 15, i), i);
            due("through(1, 0, " + i + ")", ring.through(1, 0, i), 15 - i);
        }
        due("through(0, 15, 16)", ring.through(0, 15, 16), NONE);
    }

    private static void looks() {
        about("promise 18");
        GiftRing ring = chain(4, 5, 0);
        ring.treasure(0, 100, 0);
        ring.treasure(0, 10, 0);
        ring.treasure(1, 10, 2);
        ring.give(0, 1, 0);
        ring.give(0, 1, 1);
        ring.give(2, 1, 2);
        int[][] want = {{4, 1, 110, 0, 0, 2, 0, 1}, {5, 1, 0, 3, 3, 0, 0, 2}, {0, 1, 10, 0, 0, 1, 0, 1}};
        for (int m = 0; m < 3; m++) {
            for (int what = 0; what < 8; what++) {
                due("look(" + m + ", " + what + ")", ring.look(m, what), want[m][what]);
            }
            for (int what : new int[] {-1, 8, HIGH, LOW}) {
                due("look(" + m + ", " + what + ")", ring.look(m, what), NONE);
            }
        }
        for (int bad : new int[] {-1, 3, 16, HIGH, LOW}) {
            due("look(" + bad + ", 0)", ring.look(bad, 0), NONE);
        }
        seasons(ring, 4);
        due("in the due season", ring.look(1, 6), 0);
        ring.season();
        due("late ones", ring.look(1, 6), 3);
        due("late ones are open", ring.look(1, 4), 3);
        due("late ones of the creditor", ring.look(0, 6), 0);
        due("owed to him", ring.look(0, 5), 2);
    }

    private static void toldOfTreasures() {
        about("promise 19");
        GiftRing ring = chain(0, 1);
        seasons(ring, 2);
        ring.treasure(1, 77, 1);
        due("came when it was made", ring.told(0, 3), 2);
        ring.season();
        ring.give(1, 0, 0);
        int[] want = {1, 77, 0, 3, 2};
        for (int what = 0; what < want.length; what++) {
            due("told(0, " + what + ")", ring.told(0, what), want[what]);
        }
        for (int bad : new int[] {-1, 5, HIGH, LOW}) {
            due("told(0, " + bad + ")", ring.told(0, bad), NONE);
            due("told(" + bad + ", 0)", ring.told(bad, 0), NONE);
        }
        ring.season();
        ring.lost(0);
        due("lost: holder", ring.told(0, 2), NONE);
        due("lost: how many held it", ring.told(0, 4), 2);
        due("lost: when it came to the last", ring.told(0, 3), 3);
    }

    private static void toldOfDebts() {
        about("promise 20");
        GiftRing ring = chain(0, 1);
        ring.treasure(1, 55, 1);
        ring.treasure(0, 44, 0);
        ring.season();
        ring.give(1, 0, 0);
        int[] want = {0, 1, 1, 44, 5, 0, 0, NONE};
        for (int what = 0; what < want.length; what++) {
            due("debt(0, " + what + ")", ring.debt(0, what), want[what]);
        }
        for (int bad : new int[] {-1, 8, 200, HIGH, LOW}) {
            due("debt(0, " + bad + ")", ring.debt(0, bad), NONE);
            due("debt(" + bad + ", 0)", ring.debt(bad, 0), NONE);
        }
        seasons(ring, 4);
        due("in its due season", ring.debt(0, 5), 0);
        ring.season();
        due("late", ring.debt(0, 5), 2);
        due("a return when it is late", ring.give(0, 1, 1), 1);
        due("closed", ring.debt(0, 5), 1);
        due("by", ring.debt(0, 7), 1);
        seasons(ring, 3);
        due("stays closed", ring.debt(0, 5), 1);
    }

    private static void quarrels() {
        about("promise 21");
        GiftRing ring = chain(0, 1, 2);
        ring.man(1);
        ring.treasure(0, 10, 0);
        ring.give(0, 1, 0);
        seasons(ring, 4);
        due("not late yet", ring.quarrel(0, 1), 0);
        ring.season();
        due("late", ring.quarrel(0, 1), 1);
        due("both ways", ring.quarrel(1, 0), 1);
        due("others", ring.quarrel(1, 2), 0);
        due("no partners", ring.quarrel(0, 3), 0);
        due("one man", ring.quarrel(1, 1), NONE);
        for (int bad : new int[] {-1, 4, HIGH, LOW}) {
            due("quarrel(0, " + bad + ")", ring.quarrel(0, bad), NONE);
            due("quarrel(" + bad + ", 0)", ring.quarrel(bad, 0), NONE);
            due("quarrel of one bad", ring.quarrel(bad, bad), NONE);
        }
        due("dies", ring.dies(1, 3), true);
        due("a dead man has none", ring.quarrel(0, 1), 0);
        due("his heir has", ring.quarrel(3, 0), 1);
        due("the only late one is debt 0", ring.look(3, 6), 1);
        due("partners of man 0", ring.look(0, 7), 1);
        due("and of the heir", ring.look(3, 7), 2);
        due("they are", ring.partners(0, 3), false);
    }

    private static void counts() {
        about("promise 22");
        GiftRing ring = new GiftRing();
        ring.islands(5);
        for (int m = 0; m < 4; m++) {
            ring.man(m / 2);
        }
        ring.partners(0, 2);
        ring.treasure(0, 10, 0);
        ring.treasure(0, 10, 0);
        ring.treasure(1, 8, 2);
        ring.treasure(1, 8, 2);
        ring.give(0, 2, 0);
        ring.give(0, 2, 1);
        ring.give(2, 0, 2);
        ring.lost(3);
        ring.dies(3, 2);
        seasons(ring, 5);
        tell(ring, "p11;d12;k13;h14");
        feed(ring, "");
        int[] want = {5, 4, 3, 4, 1, 2, 1, 5, 20, NONE, 11, 12, 13, 14, NONE};
        for (int what = 0; what < want.length; what++) {
            due("count(" + what + ")", ring.count(what), want[what]);
        }
        for (int bad : new int[] {-1, 110, HIGH, LOW}) {
            due("count(" + bad + ")", ring.count(bad), NONE);
        }
    }

    private static void objectsAreApart() {
        about("promise 1");
        GiftRing one = new GiftRing();
        GiftRing other = new GiftRing();
        tell(one, "p5;h9");
        one.man(0);
        one.season();
        due("custom of the other", other.count(10), 80);
        due("men of the other", other.count(1), 0);
        due("season of the other", other.count(7), 0);
        due("custom of a later one", new GiftRing().count(13), 6);
    }

    public static void main(String[] args) {
        aNewObject();
        objectsAreApart();
        tape();
        aTapeOfTwoFeeds();
        customAndFaults();
        islands();
        men();
        partners();
        treasures();
        giftsThatCantBe();
        openings();
        returns();
        meanwhile();
        likeKindOpens();
        quarrelsAllowReturnsAlone();
        twoHundredDebts();
        seasonsGoBy();
        deaths();
        closedDebtsAreInheritedToo();
        inheritedAnew();
        losses();
        news();
        inheritedNews();
        theLastThatHappenedCounts();
        ways();
        closings();
        mostDebtsThenLeastWorth();
        firstEightAndSix();
        whatWasGivenIsNotOneOfTheEight();
        aTreasureWithNoGiftLeft();
        closingIsTheLatest();
        soonestAndThrough();
        theLongestWay();
        looks();
        toldOfTreasures();
        toldOfDebts();
        quarrels();
        counts();
        finish();
    }
}
