import java.util.ArrayList;
import java.util.List;
import java.util.Random;
import java.util.function.Supplier;
import java.util.function.ToIntFunction;

/**
 * A call that is refused changes nothing but the tape, where it is told. Two rings are made alike;
 * the calls that are refused are made on one of them alone, and the two must show the same then,
 * at once and after some life more, in which what can't be seen at once would come out.
 */
public final class RefusedCalls extends RingTest {
    private static final int[] ODD = {-1, LOW, HIGH, 16, 24, 32, 33, 64, 200, 1000};

    /** All that a ring shows; closing() comes first, since closings() writes its row anew. */
    private static List<Integer> portrait(GiftRing ring) {
        List<Integer> all = new ArrayList<>();
        for (int i = -1; i < 8; i++) {
            all.add(ring.closing(i));
        }
        for (int what = -1; what < 16; what++) {
            all.add(ring.count(what));
        }
        for (int m = 0; m < ring.count(1); m++) {
            addMan(ring, m, all);
        }
        for (int t = 0; t < ring.count(3); t++) {
            addTreasure(ring, t, all);
        }
        for (int d = 0; d < ring.count(5); d++) {
            for (int what = 0; what < 8; what++) {
                all.add(ring.debt(d, what));
            }
        }
        return all;
    }

    private static void addMan(GiftRing ring, int m, List<Integer> all) {
        for (int what = 0; what < 8; what++) {
            all.add(ring.look(m, what));
        }
        for (int b = 0; b < ring.count(1); b++) {
            all.add(ring.quarrel(m, b));
        }
        all.add(ring.closings(m));
        for (int i = 0; i < 6; i++) {
            all.add(ring.closing(i));
        }
    }

    private static void addTreasure(GiftRing ring, int t, List<Integer> all) {
        for (int what = 0; what < 5; what++) {
            all.add(ring.told(t, what));
        }
        for (int island = 0; island < ring.count(0); island++) {
            all.add(ring.known(island, t));
        }
        for (int i = 0; i < ring.told(t, 4); i++) {
            all.add(ring.way(t, i));
        }
        for (int m = 0; m < ring.count(1); m++) {
            for (int i = 0; i < 4; i++) {
                all.add(ring.through(t, m, i));
            }
        }
    }

    private static boolean showTheSame(GiftRing one, GiftRing other) {
        return portrait(one).equals(portrait(other));
    }

    /** Reads the tape, lets all give what they can, and lets seasons go by, the same for each ring. */
    private static List<Integer> lifeMore(GiftRing ring) {
        List<Integer> all = new ArrayList<>();
        all.add(feed(ring, "p9"));
        all.add(ring.custom(Math.min(ring.count(8), 15)));
        for (int round = 0; round < 6; round++) {
            for (int t = 0; t < ring.count(3); t++) {
                for (int n = 0; n < ring.count(1); n++) {
                    all.add(ring.give(ring.told(t, 2), n, t));
                }
            }
            all.addAll(portrait(ring));
            all.add(ring.season());
        }
        for (int m = 0; m < ring.count(1); m++) {
            for (int n = 0; n < ring.count(1); n++) {
                all.add(ring.partners(m, n) ? 1 : 0);
            }
        }
        all.addAll(portrait(ring));
        return all;
    }

    private static int flag(boolean answer) {
        return answer ? 1 : 0;
    }

    /** The call must be refused on a ring of that kind, with that answer, and change nothing. */
    private static void refused(Supplier<GiftRing> kind, String what, int answer, ToIntFunction<GiftRing> call) {
        GiftRing asked = kind.get();
        GiftRing twin = kind.get();
        due(what, call.applyAsInt(asked), answer);
        due(what + " changes nothing that shows", showTheSame(asked, twin), true);
        due(what + " changes nothing that shows later", lifeMore(asked).equals(lifeMore(twin)), true);
    }

    private static void refuses(Supplier<GiftRing> kind, String what, ToIntFunction<GiftRing> call) {
        refused(kind, what, NONE, call);
    }

    private static void denies(Supplier<GiftRing> kind, String what, ToIntFunction<GiftRing> call) {
        refused(kind, what, 0, call);
    }

    /**
     * Men 0 to 3 on islands 0 to 3, man 4 dead on 0 with heir 0, man 5 on 5 and man 6 on 1. Man 1
     * owes 0 two debts, one of them late, and man 0 owes 5; treasure 3 is lost, and a text is fed.
     */
    private static GiftRing busyRing() {
        GiftRing ring = new GiftRing();
        for (int island : new int[] {0, 1, 2, 3, 0, 5, 1}) {
            ring.man(island);
        }
        int[][] pairs = {{0, 1}, {1, 2}, {2, 3}, {4, 1}, {0, 5}};
        for (int[] pair : pairs) {
            ring.partners(pair[0], pair[1]);
        }
        int[][] treasures = {{0, 50, 0}, {0, 20, 0}, {1, 15, 1}, {1, 30, 1}, {0, 9, 5}, {0, 7, 4}, {1, 8, 0}, {1, 40, 1}};
        for (int[] row : treasures) {
            ring.treasure(row[0], row[1], row[2]);
        }
        ring.give(0, 1, 0);
        tell(ring, "p90;d50;k3;h4");
        ring.give(0, 1, 1);
        ring.dies(4, 0);
        ring.lost(3);
        seasons(ring, 5);
        ring.give(5, 0, 4);
        feed(ring, "p77;d66;k55;h44");
        ring.closings(1);
        return ring;
    }

    /** Man 1 holds a necklace that was given to him in this season and could go on to man 2. */
    private static GiftRing ringWithAGift() {
        GiftRing ring = chain(0, 1, 2);
        ring.treasure(0, 10, 0);
        ring.give(0, 1, 0);
        return ring;
    }

    /** Man 1 owes 0 a debt that is late, behind one that is not and for which nothing was won. */
    private static GiftRing quarrellingRing() {
        GiftRing ring = chain(0, 1);
        ring.treasure(0, 50, 0);
        ring.treasure(0, 40, 0);
        ring.treasure(1, 40, 1);
        ring.treasure(1, 30, 1);
        ring.treasure(0, 5, 0);
        tell(ring, "p100;d50");
        ring.give(0, 1, 0);
        tell(ring, "p100;d1");
        ring.give(0, 1, 1);
        seasons(ring, 2);
        return ring;
    }

    private static GiftRing ringWithAFullTape() {
        GiftRing ring = busyRing();
        feed(ring, ";p1");
        return ring;
    }

    private static GiftRing fullRing() {
        GiftRing ring = new GiftRing();
        for (int m = 0; m < 16; m++) {
            ring.man(m % 6);
        }
        ring.partners(0, 1);
        for (int t = 0; t < 24; t++) {
            ring.treasure(t % 2, 10 + t, t % 16);
        }
        return ring;
    }

    private static GiftRing ringWithAFullWay() {
        GiftRing ring = smallRing();
        rounds(ring, 63);
        return ring;
    }

    private static GiftRing ringWithAllDebts() {
        return ringOfDebts(200);
    }

    private static GiftRing ringAtItsEnd() {
        GiftRing ring = chain(0, 1);
        ring.treasure(0, 10, 0);
        seasons(ring, 1000);
        return ring;
    }

    private static void theTape() {
        about("a refused feed or custom");
        Supplier<GiftRing> full = RefusedCalls::ringWithAFullTape;
        refuses(full, "feed of a full tape", ring -> ring.feed(1, 2, 3, 4, 5));
        refuses(full, "custom(41)", ring -> ring.custom(41));
        refuses(full, "custom(-1)", ring -> ring.custom(-1));
        Supplier<GiftRing> busy = RefusedCalls::busyRing;
        refuses(busy, "custom(21)", ring -> ring.custom(21));
        refuses(busy, "custom(-1)", ring -> ring.custom(-1));
        refuses(busy, "custom(HIGH)", ring -> ring.custom(HIGH));
        refuses(busy, "custom(LOW)", ring -> ring.custom(LOW));
        refuses(GiftRing::new, "custom(1) of an empty tape", ring -> ring.custom(1));
    }

    /** A fault empties the tape and changes nothing else, as reading the terms that stand does. */
    private static void faults() {
        about("a FAULT (CUSTOM stays)");
        for (String text : new String[] {"", "p1;x", "p1;d", "p1;d00001", "p1;d1;k1;h100", "p1;d1;k1;h1x"}) {
            GiftRing asked = busyRing();
            GiftRing twin = busyRing();
            asked.custom(0);
            twin.custom(0);
            due("custom of '" + text + "' is refused", tell(asked, text) >= 100, true);
            due("custom of the same terms", tell(twin, "p90;d50;k3;h4"), 0);
            due("'" + text + "' changes nothing that shows", showTheSame(asked, twin), true);
            due("'" + text + "' changes nothing that shows later", lifeMore(asked).equals(lifeMore(twin)), true);
        }
    }

    private static void islandsAndMen() {
        about("refused islands, men, partners and treasures");
        Supplier<GiftRing> busy = RefusedCalls::busyRing;
        Supplier<GiftRing> full = RefusedCalls::fullRing;
        for (int n : new int[] {2, 9, -1, 0, HIGH, LOW}) {
            denies(GiftRing::new, "islands(" + n + ")", ring -> flag(ring.islands(n)));
            denies(busy, "islands(" + n + ")", ring -> flag(ring.islands(n)));
        }
        for (int n = 3; n <= 8; n++) {
            int islands = n;
            denies(busy, "islands(" + n + ") with men", ring -> flag(ring.islands(islands)));
        }
        for (int island : new int[] {-1, 6, HIGH, LOW}) {
            refuses(busy, "man(" + island + ")", ring -> ring.man(island));
        }
        refuses(full, "a seventeenth man", ring -> ring.man(0));
        int[][] pairs = {
            {0, 1}, {1, 0}, {0, 0}, {0, 2}, {0, 3}, {0, 4}, {4, 1}, {1, 4}, {1, 6}, {0, 7}, {7, 0}, {-1, 0}, {0, -1},
            {32, 1}, {1, 32}, {HIGH, 1}, {1, LOW},
        };
        for (int[] pair : pairs) {
            denies(busy, "partners(" + pair[0] + ", " + pair[1] + ")", ring -> flag(ring.partners(pair[0], pair[1])));
        }
        int[][] treasures = {
            {-1, 5, 0}, {2, 5, 0}, {HIGH, 5, 0}, {0, 0, 0}, {0, 1000, 0}, {0, -1, 0}, {0, LOW, 0}, {0, 5, -1}, {0, 5, 7},
            {0, 5, 4}, {0, 5, HIGH},
        };
        for (int[] row : treasures) {
            refuses(busy, "treasure(" + row[0] + ", " + row[1] + ", " + row[2] + ")",
                ring -> ring.treasure(row[0], row[1], row[2]));
        }
        refuses(full, "a 25th treasure", ring -> ring.treasure(0, 5, 0));
    }

    private static void gifts() {
        about("a refused gift");
        Supplier<GiftRing> busy = RefusedCalls::busyRing;
        int[][] rows = {
            {1, 2, 5}, {4, 1, 5}, {0, 6, 5}, {0, 4, 5}, {0, 0, 5}, {0, 5, 5}, {0, 1, 6}, {0, 1, 4}, {1, 0, 3}, {7, 1, 5},
            {0, 7, 5}, {0, 1, 8}, {-1, 1, 5}, {0, -1, 5}, {0, 1, -1}, {0, 33, 5}, {HIGH, LOW, HIGH}, {1, 1, 0}, {1, 0, 0},
        };
        for (int[] row : rows) {
            refuses(busy, "give(" + row[0] + ", " + row[1] + ", " + row[2] + ")",
                ring -> ring.give(row[0], row[1], row[2]));
        }
        GiftRing quarrelling = busyRing();
        due("there is a quarrel", quarrelling.quarrel(0, 1), 1);
        due("and a return that can be", quarrelling.give(1, 0, 7), 1);
        Supplier<GiftRing> quarrel = RefusedCalls::quarrellingRing;
        refuses(busy, "an opening in a quarrel", ring -> ring.give(0, 1, 5));
        refuses(busy, "a gift meanwhile in a quarrel", ring -> ring.give(1, 0, 2));
        refuses(quarrel, "an opening in a quarrel that ends", ring -> ring.give(0, 1, 4));
        refuses(quarrel, "a gift meanwhile in a quarrel that ends", ring -> ring.give(1, 0, 3));
        refuses(RefusedCalls::ringWithAGift, "a second gift in a season", ring -> ring.give(1, 2, 0));
        refuses(RefusedCalls::ringWithAFullWay, "a gift behind the 64th holder", ring -> ring.give(0, 1, 0));
        refuses(RefusedCalls::ringWithAllDebts, "an opening behind the 200th debt", ring -> ring.give(2, 0, 20));
    }

    private static void timeAndLoss() {
        about("a refused season, death or loss");
        Supplier<GiftRing> busy = RefusedCalls::busyRing;
        refuses(RefusedCalls::ringAtItsEnd, "season 1001", GiftRing::season);
        int[][] rows = {
            {0, 0}, {0, 1}, {0, 4}, {4, 0}, {4, 4}, {-1, 0}, {0, -1}, {7, 0}, {0, 7}, {HIGH, 0}, {0, LOW}, {32, 0}, {2, 3},
        };
        for (int[] row : rows) {
            denies(busy, "dies(" + row[0] + ", " + row[1] + ")", ring -> flag(ring.dies(row[0], row[1])));
        }
        for (int t : new int[] {3, 8, -1, 24, HIGH, LOW}) {
            denies(busy, "lost(" + t + ")", ring -> flag(ring.lost(t)));
        }
    }

    private static void questions() {
        about("a refused question");
        Supplier<GiftRing> busy = RefusedCalls::busyRing;
        for (int bad : ODD) {
            refuses(busy, "known(" + bad + ", 0)", ring -> ring.known(bad, 0));
            refuses(busy, "known(0, " + bad + ")", ring -> ring.known(0, bad));
            refuses(busy, "way(0, " + bad + ")", ring -> ring.way(0, bad));
            refuses(busy, "way(" + bad + ", 0)", ring -> ring.way(bad, 0));
            refuses(busy, "closings(" + bad + ")", ring -> ring.closings(bad));
            refuses(busy, "closing(" + bad + ")", ring -> ring.closing(bad));
            refuses(busy, "soonest(" + bad + ", 0)", ring -> ring.soonest(bad, 0));
            refuses(busy, "soonest(5, " + bad + ")", ring -> ring.soonest(5, bad));
            refuses(busy, "through(5, 0, " + bad + ")", ring -> ring.through(5, 0, bad));
            refuses(busy, "through(5, " + bad + ", 0)", ring -> ring.through(5, bad, 0));
            refuses(busy, "through(" + bad + ", 0, 0)", ring -> ring.through(bad, 0, 0));
            refuses(busy, "look(0, " + bad + ")", ring -> ring.look(0, bad));
            refuses(busy, "look(" + bad + ", 0)", ring -> ring.look(bad, 0));
            refuses(busy, "told(0, " + bad + ")", ring -> ring.told(0, bad));
            refuses(busy, "told(" + bad + ", 0)", ring -> ring.told(bad, 0));
            refuses(busy, "debt(0, " + bad + ")", ring -> ring.debt(0, bad));
            refuses(busy, "debt(" + bad + ", 0)", ring -> ring.debt(bad, 0));
            refuses(busy, "quarrel(0, " + bad + ")", ring -> ring.quarrel(0, bad));
            refuses(busy, "quarrel(" + bad + ", 0)", ring -> ring.quarrel(bad, 0));
            refuses(busy, "count(" + bad + ")", ring -> ring.count(bad == 16 ? 9 : bad));
        }
        refuses(busy, "closings of a dead man", ring -> ring.closings(4));
        refuses(busy, "soonest to a dead man", ring -> ring.soonest(5, 4));
        refuses(busy, "soonest of a lost one", ring -> ring.soonest(3, 1));
        refuses(busy, "quarrel of one man", ring -> ring.quarrel(1, 1));
    }

    /** A question that is answered changes nothing either, but for the row of closings(). */
    private static void askingChangesNothing() {
        about("what is asked");
        GiftRing asked = busyRing();
        GiftRing twin = busyRing();
        List<Integer> first = portrait(asked);
        List<Integer> second = portrait(asked);
        due("asked twice", first.subList(9, first.size()).equals(second.subList(9, second.size())), true);
        portrait(twin);
        portrait(twin);
        due("asked again", showTheSame(asked, twin), true);
        GiftRing fresh = busyRing();
        for (int m = 0; m < 7; m++) {
            asked.closings(m);
            fresh.closings(m);
        }
        due("as in a ring that was not asked", showTheSame(asked, fresh), true);
        due("and later", lifeMore(asked).equals(lifeMore(fresh)), true);
    }

    private static int some(Random dice, int n) {
        return dice.nextInt(25) == 0 ? ODD[dice.nextInt(ODD.length)] : dice.nextInt(n);
    }

    private static int noneIfNot(boolean answer) {
        return answer ? 1 : NONE;
    }

    /** A call with mixed arguments that answers NONE where it is refused. */
    private static ToIntFunction<GiftRing> anyCall(Random dice) {
        int a = some(dice, 9);
        int b = some(dice, 9);
        int t = some(dice, 14);
        int worth = some(dice, 60);
        switch (dice.nextInt(40)) {
            case 0:
                return ring -> noneIfNot(ring.dies(a, b));
            case 1:
                return ring -> noneIfNot(ring.lost(t));
            case 2:
            case 3:
                return ring -> feed(ring, "p" + (worth & 511) + ";d" + (a & 127) + ";k" + (b & 127));
            case 4:
            case 5:
                return ring -> ring.custom(worth / 2);
            case 6:
            case 7:
                return ring -> ring.man(a);
            case 8:
                return ring -> noneIfNot(ring.islands(a));
            case 9:
            case 10:
                return ring -> ring.closings(a);
            case 11:
            case 12:
            case 13:
            case 14:
                return ring -> noneIfNot(ring.partners(a, b));
            case 15:
            case 16:
            case 17:
            case 18:
                return ring -> ring.treasure(t & 1, worth, a);
            case 19:
            case 20:
            case 21:
                return GiftRing::season;
            default:
                return ring -> ring.give(ring.told(t, 2), a, t);
        }
    }

    private static void mixedRuns() {
        about("mixed calls, the refused ones left out in the twin");
        int refusals = 0;
        for (int seed = 0; seed < 400; seed++) {
            Random dice = new Random(seed);
            GiftRing asked = closedRing(4);
            GiftRing twin = closedRing(4);
            for (int i = 0; i < 300; i++) {
                ToIntFunction<GiftRing> call = anyCall(dice);
                int answer = call.applyAsInt(asked);
                if (answer == NONE) {
                    refusals++;
                } else {
                    due("seed " + seed + ", call " + i, call.applyAsInt(twin), answer);
                }
            }
            due("seed " + seed + ", both show the same", showTheSame(asked, twin), true);
            due("seed " + seed + ", and later", lifeMore(asked).equals(lifeMore(twin)), true);
        }
        due("there were refusals enough", refusals > 10000, true);
    }

    public static void main(String[] args) {
        theTape();
        faults();
        islandsAndMen();
        gifts();
        timeAndLoss();
        questions();
        askingChangesNothing();
        mixedRuns();
        finish();
    }
}
