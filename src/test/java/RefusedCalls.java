import java.util.List;
import java.util.Random;
import java.util.function.Supplier;
import java.util.function.ToIntFunction;

/**
 * A call that is refused changes nothing but the tape, where it is told. Two rings are made alike;
 * the calls that are refused are made on one of them alone, and the two must show the same then,
 * at once and after some life more, in which what can't be seen at once would come out.
 */
public final class RefusedCalls extends RingLife {
    private static int flag(boolean answer) {
        return answer ? 1 : 0;
    }

    /** The call must be refused on a ring of that kind, with that answer, and change nothing. */
    private static void refused(Supplier<GiftRing> kind, String what, int answer, ToIntFunction<GiftRing> call) {
        GiftRing asked = kind.get();
        GiftRing twin = kind.get();
        due(what, call.applyAsInt(asked), answer);
        due(what + " changes nothing that shows", showTheSame(asked, twin), true);
        due(what + " changes nothing that shows later", lifeMore(asked).equals(lifeMore(twin)), true);
    }

    private static void refuses(Supplier<GiftRing> kind, String what, ToIntFunction<GiftRing> call) {
        refused(kind, what, NONE, call);
    }

    private static void denies(Supplier<GiftRing> kind, String what, ToIntFunction<GiftRing> call) {
        refused(kind, what, 0, call);
    }

    private static void theTape() {
        about("a refused feed or custom");
        Supplier<GiftRing> full = RingLife::ringWithAFullTape;
        refuses(full, "feed of a full tape", ring -> ring.feed(1, 2, 3, 4, 5));
        refuses(full, "custom(41)", ring -> ring.custom(41));
        refuses(full, "custom(-1)", ring -> ring.custom(-1));
        Supplier<GiftRing> busy = RingLife::busyRing;
        refuses(busy, "custom(21)", ring -> ring.custom(21));
        refuses(busy, "custom(-1)", ring -> ring.custom(-1));
        refuses(busy, "custom(HIGH)", ring -> ring.custom(HIGH));
        refuses(busy, "custom(LOW)", ring -> ring.custom(LOW));
        refuses(GiftRing::new, "custom(1) of an empty tape", ring -> ring.custom(1));
    }

    /** A fault empties the tape and changes nothing else, as reading the terms that stand does. */
    private static void faults() {
        about("a FAULT (CUSTOM stays)");
        for (String text : new String[] {"", "p1;x", "p1;d", "p1;d00001", "p1;d1;k1;h100", "p1;d1;k1;h1x"}) {
            GiftRing asked = busyRing();
            GiftRing twin = busyRing();
            asked.custom(0);
            twin.custom(0);
            due("custom of '" + text + "' is refused", tell(asked, text) >= 100, true);
            due("custom of the same terms", tell(twin, "p90;d50;k3;h4"), 0);
            due("'" + text + "' changes nothing that shows", showTheSame(asked, twin), true);
            due("'" + text + "' changes nothing that shows later", lifeMore(asked).equals(lifeMore(twin)), true);
        }
    }

    private static void islandsAndMen() {
        about("refused islands, men, partners and treasures");
        Supplier<GiftRing> busy = RingLife::busyRing;
        Supplier<GiftRing> full = RingLife::fullRing;
        for (int n : new int[] {2, 9, -1, 0, HIGH, LOW}) {
            denies(GiftRing::new, "islands(" + n + ")", ring -> flag(ring.islands(n)));
            denies(busy, "islands(" + n + ")", ring -> flag(ring.islands(n)));
        }
        for (int n = 3; n <= 8; n++) {
            int islands = n;
            denies(busy, "islands(" + n + ") with men", ring -> flag(ring.islands(islands)));
        }
        for (int island : new int[] {-1, 6, HIGH, LOW}) {
            refuses(busy, "man(" + island + ")", ring -> ring.man(island));
        }
        refuses(full, "a seventeenth man", ring -> ring.man(0));
        int[][] pairs = {
            {0, 1}, {1, 0}, {0, 0}, {0, 2}, {0, 3}, {0, 4}, {4, 1}, {1, 4}, {1, 6}, {0, 7}, {7, 0}, {-1, 0}, {0, -1},
            {32, 1}, {1, 32}, {HIGH, 1}, {1, LOW},
        };
        for (int[] pair : pairs) {
            denies(busy, "partners(" + pair[0] + ", " + pair[1] + ")", ring -> flag(ring.partners(pair[0], pair[1])));
        }
        int[][] treasures = {
            {-1, 5, 0}, {2, 5, 0}, {HIGH, 5, 0}, {0, 0, 0}, {0, 1000, 0}, {0, -1, 0}, {0, LOW, 0}, {0, 5, -1}, {0, 5, 7},
            {0, 5, 4}, {0, 5, HIGH},
        };
        for (int[] row : treasures) {
            refuses(busy, "treasure(" + row[0] + ", " + row[1] + ", " + row[2] + ")",
                ring -> ring.treasure(row[0], row[1], row[2]));
        }
        refuses(full, "a 25th treasure", ring -> ring.treasure(0, 5, 0));
    }

    private static void gifts() {
        about("a refused gift");
        Supplier<GiftRing> busy = RingLife::busyRing;
        int[][] rows = {
            {1, 2, 5}, {4, 1, 5}, {0, 6, 5}, {0, 4, 5}, {0, 0, 5}, {0, 5, 5}, {0, 1, 6}, {0, 1, 4}, {1, 0, 3}, {7, 1, 5},
            {0, 7, 5}, {0, 1, 8}, {-1, 1, 5}, {0, -1, 5}, {0, 1, -1}, {0, 33, 5}, {HIGH, LOW, HIGH}, {1, 1, 0}, {1, 0, 0},
        };
        for (int[] row : rows) {
            refuses(busy, "give(" + row[0] + ", " + row[1] + ", " + row[2] + ")",
                ring -> ring.give(row[0], row[1], row[2]));
        }
        GiftRing quarrelling = busyRing();
        due("there is a quarrel", quarrelling.quarrel(0, 1), 1);
        due("and a return that can be", quarrelling.give(1, 0, 7), 1);
        Supplier<GiftRing> quarrel = RingLife::quarrellingRing;
        refuses(busy, "an opening in a quarrel", ring -> ring.give(0, 1, 5));
        refuses(busy, "a gift meanwhile in a quarrel", ring -> ring.give(1, 0, 2));
        refuses(quarrel, "an opening in a quarrel that ends", ring -> ring.give(0, 1, 4));
        refuses(quarrel, "a gift meanwhile in a quarrel that ends", ring -> ring.give(1, 0, 3));
        refuses(RingLife::ringWithAGift, "a second gift in a season", ring -> ring.give(1, 2, 0));
        refuses(RingLife::ringWithAFullWay, "a gift behind the 64th holder", ring -> ring.give(0, 1, 0));
        refuses(RingLife::ringWithAllDebts, "an opening behind the 200th debt", ring -> ring.give(2, 0, 20));
    }

    private static void timeAndLoss() {
        about("a refused season, death or loss");
        Supplier<GiftRing> busy = RingLife::busyRing;
        refuses(RingLife::ringAtItsEnd, "season 1001", GiftRing::season);
        int[][] rows = {
            {0, 0}, {0, 1}, {0, 4}, {4, 0}, {4, 4}, {-1, 0}, {0, -1}, {7, 0}, {0, 7}, {HIGH, 0}, {0, LOW}, {32, 0}, {2, 3},
        };
        for (int[] row : rows) {
            denies(busy, "dies(" + row[0] + ", " + row[1] + ")", ring -> flag(ring.dies(row[0], row[1])));
        }
        for (int t : new int[] {3, 8, -1, 24, HIGH, LOW}) {
            denies(busy, "lost(" + t + ")", ring -> flag(ring.lost(t)));
        }
    }

    private static void questions() {
        about("a refused question");
        Supplier<GiftRing> busy = RingLife::busyRing;
        for (int bad : ODD) {
            refuses(busy, "known(" + bad + ", 0)", ring -> ring.known(bad, 0));
            refuses(busy, "known(0, " + bad + ")", ring -> ring.known(0, bad));
            refuses(busy, "way(0, " + bad + ")", ring -> ring.way(0, bad));
            refuses(busy, "way(" + bad + ", 0)", ring -> ring.way(bad, 0));
            refuses(busy, "closings(" + bad + ")", ring -> ring.closings(bad));
            refuses(busy, "closing(" + bad + ")", ring -> ring.closing(bad));
            refuses(busy, "soonest(" + bad + ", 0)", ring -> ring.soonest(bad, 0));
            refuses(busy, "soonest(5, " + bad + ")", ring -> ring.soonest(5, bad));
            refuses(busy, "through(5, 0, " + bad + ")", ring -> ring.through(5, 0, bad));
            refuses(busy, "through(5, " + bad + ", 0)", ring -> ring.through(5, bad, 0));
            refuses(busy, "through(" + bad + ", 0, 0)", ring -> ring.through(bad, 0, 0));
            refuses(busy, "look(0, " + bad + ")", ring -> ring.look(0, bad));
            refuses(busy, "look(" + bad + ", 0)", ring -> ring.look(bad, 0));
            refuses(busy, "told(0, " + bad + ")", ring -> ring.told(0, bad));
            refuses(busy, "told(" + bad + ", 0)", ring -> ring.told(bad, 0));
            refuses(busy, "debt(0, " + bad + ")", ring -> ring.debt(0, bad));
            refuses(busy, "debt(" + bad + ", 0)", ring -> ring.debt(bad, 0));
            refuses(busy, "quarrel(0, " + bad + ")", ring -> ring.quarrel(0, bad));
            refuses(busy, "quarrel(" + bad + ", 0)", ring -> ring.quarrel(bad, 0));
            refuses(busy, "count(" + bad + ")", ring -> ring.count(bad == 16 ? 9 : bad));
        }
        refuses(busy, "closings of a dead man", ring -> ring.closings(4));
        refuses(busy, "soonest to a dead man", ring -> ring.soonest(5, 4));
        refuses(busy, "soonest of a lost one", ring -> ring.soonest(3, 1));
        refuses(busy, "quarrel of one man", ring -> ring.quarrel(1, 1));
    }

    /** A question that is answered changes nothing either, but for the row of closings(). */
    private static void askingChangesNothing() {
        about("what is asked");
        GiftRing asked = busyRing();
        GiftRing twin = busyRing();
        List<Integer> first = portrait(asked);
        List<Integer> second = portrait(asked);
        due("asked twice", first.subList(9, first.size()).equals(second.subList(9, second.size())), true);
        portrait(twin);
        portrait(twin);
        due("asked again", showTheSame(asked, twin), true);
        GiftRing fresh = busyRing();
        for (int m = 0; m < 7; m++) {
            asked.closings(m);
            fresh.closings(m);
        }
        due("as in a ring that was not asked", showTheSame(asked, fresh), true);
        due("and later", lifeMore(asked).equals(lifeMore(fresh)), true);
    }

    private static void mixedRuns() {
        about("mixed calls, the refused ones left out in the twin");
        int refusals = 0;
        for (int seed = 0; seed < 400; seed++) {
            Random dice = new Random(seed);
            GiftRing asked = closedRing(4);
            GiftRing twin = closedRing(4);
            for (int i = 0; i < 300; i++) {
                ToIntFunction<GiftRing> call = anyCall(dice);
                int answer = call.applyAsInt(asked);
                if (answer == NONE) {
                    refusals++;
                } else {
                    due("seed " + seed + ", call " + i, call.applyAsInt(twin), answer);
                }
            }
            due("seed " + seed + ", both show the same", showTheSame(asked, twin), true);
            due("seed " + seed + ", and later", lifeMore(asked).equals(lifeMore(twin)), true);
        }
        due("there were refusals enough", refusals > 10000, true);
    }

    public static void main(String[] args) {
        theTape();
        faults();
        islandsAndMen();
        gifts();
        timeAndLoss();
        questions();
        askingChangesNothing();
        mixedRuns();
        finish();
    }
}
