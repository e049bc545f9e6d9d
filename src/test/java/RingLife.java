import java.util.ArrayList;
import java.util.List;
import java.util.Random;
import java.util.function.ToIntFunction;

/** What the tests share that let whole rings live: rings in many states, and all that they show. */
abstract class RingLife extends RingTest {
    static final int[] ODD = {-1, LOW, HIGH, 16, 24, 32, 33, 64, 200, 1000};

    /** All that a ring shows; closing() comes first, since closings() writes its row anew. */
    static List<Integer> portrait(GiftRing ring) {
        List<Integer> all = new ArrayList<>();
        for (int i = -1; i < 8; i++) {
            all.add(ring.closing(i));
        }
        for (int what = -1; what < 16; what++) {
            all.add(ring.count(what));
        }
        for (int m = 0; m < ring.count(1); m++) {
            addMan(ring, m, all);
        }
        for (int t = 0; t < ring.count(3); t++) {
            addTreasure(ring, t, all);
        }
        for (int d = 0; d < ring.count(5); d++) {
            for (int what = 0; what < 8; what++) {
                all.add(ring.debt(d, what));
            }
        }
        return all;
    }

    private static void addMan(GiftRing ring, int m, List<Integer> all) {
        for (int what = 0; what < 8; what++) {
            all.add(ring.look(m, what));
        }
        for (int b = 0; b < ring.count(1); b++) {
            all.add(ring.quarrel(m, b));
        }
        all.add(ring.closings(m));
        for (int i = 0; i < 6; i++) {
            all.add(ring.closing(i));
        }
    }

    private static void addTreasure(GiftRing ring, int t, List<Integer> all) {
        for (int what = 0; what < 5; what++) {
            all.add(ring.told(t, what));
        }
        for (int island = 0; island < ring.count(0); island++) {
            all.add(ring.known(island, t));
        }
        for (int i = 0; i < ring.told(t, 4); i++) {
            all.add(ring.way(t, i));
        }
        for (int m = 0; m < ring.count(1); m++) {
            for (int i = 0; i < 4; i++) {
                all.add(ring.through(t, m, i));
            }
        }
    }

    static boolean showTheSame(GiftRing one, GiftRing other) {
        return portrait(one).equals(portrait(other));
    }

    /** Reads the tape, lets all give what they can, and lets seasons go by, the same for each ring. */
    static List<Integer> lifeMore(GiftRing ring) {
        List<Integer> all = new ArrayList<>();
        all.add(feed(ring, "p9"));
        all.add(ring.custom(Math.min(ring.count(8), 15)));
        for (int round = 0; round < 6; round++) {
            for (int t = 0; t < ring.count(3); t++) {
                for (int n = 0; n < ring.count(1); n++) {
                    all.add(ring.give(ring.told(t, 2), n, t));
                }
            }
            all.addAll(portrait(ring));
            all.add(ring.season());
        }
        for (int m = 0; m < ring.count(1); m++) {
            for (int n = 0; n < ring.count(1); n++) {
                all.add(ring.partners(m, n) ? 1 : 0);
            }
        }
        all.addAll(portrait(ring));
        return all;
    }

    /**
     * Men 0 to 3 on islands 0 to 3, man 4 dead on 0 with heir 0, man 5 on 5 and man 6 on 1. Man 1
     * owes 0 two debts, one of them late, and man 0 owes 5; treasure 3 is lost, and a text is fed.
     */
    static GiftRing busyRing() {
        GiftRing ring = new GiftRing();
        for (int island : new int[] {0, 1, 2, 3, 0, 5, 1}) {
            ring.man(island);
        }
        int[][] pairs = {{0, 1}, {1, 2}, {2, 3}, {4, 1}, {0, 5}};
        for (int[] pair : pairs) {
            ring.partners(pair[0], pair[1]);
        }
        int[][] treasures = {{0, 50, 0}, {0, 20, 0}, {1, 15, 1}, {1, 30, 1}, {0, 9, 5}, {0, 7, 4}, {1, 8, 0}, {1, 40, 1}};
        for (int[] row : treasures) {
            ring.treasure(row[0], row[1], row[2]);
        }
        ring.give(0, 1, 0);
        tell(ring, "p90;d50;k3;h4");
        ring.give(0, 1, 1);
        ring.dies(4, 0);
        ring.lost(3);
        seasons(ring, 5);
        ring.give(5, 0, 4);
        feed(ring, "p77;d66;k55;h44");
        ring.closings(1);
        return ring;
    }

    /** Man 1 holds a necklace that was given to him in this season and could go on to man 2. */
    static GiftRing ringWithAGift() {
        GiftRing ring = chain(0, 1, 2);
        ring.treasure(0, 10, 0);
        ring.give(0, 1, 0);
        return ring;
    }

    /** Man 1 owes 0 a debt that is late, behind one that is not and for which nothing was won. */
    static GiftRing quarrellingRing() {
        GiftRing ring = chain(0, 1);
        ring.treasure(0, 50, 0);
        ring.treasure(0, 40, 0);
        ring.treasure(1, 40, 1);
        ring.treasure(1, 30, 1);
        ring.treasure(0, 5, 0);
        tell(ring, "p100;d50");
        ring.give(0, 1, 0);
        tell(ring, "p100;d1");
        ring.give(0, 1, 1);
        seasons(ring, 2);
        return ring;
    }

    static GiftRing ringWithAFullTape() {
        GiftRing ring = busyRing();
        feed(ring, ";p1");
        return ring;
    }

    static GiftRing fullRing() {
        GiftRing ring = new GiftRing();
        for (int m = 0; m < 16; m++) {
            ring.man(m % 6);
        }
        ring.partners(0, 1);
        for (int t = 0; t < 24; t++) {
            ring.treasure(t % 2, 10 + t, t % 16);
        }
        return ring;
    }

    static GiftRing ringWithAFullWay() {
        GiftRing ring = smallRing();
        rounds(ring, 63);
        return ring;
    }

    static GiftRing ringWithAllDebts() {
        return ringOfDebts(200);
    }

    static GiftRing ringAtItsEnd() {
        GiftRing ring = chain(0, 1);
        ring.treasure(0, 10, 0);
        seasons(ring, 1000);
        return ring;
    }

    private static int some(Random dice, int n) {
        return dice.nextInt(25) == 0 ? ODD[dice.nextInt(ODD.length)] : dice.nextInt(n);
    }

    private static int noneIfNot(boolean answer) {
        return answer ? 1 : NONE;
    }

    /** A call with mixed arguments that answers NONE where it is refused. */
    static ToIntFunction<GiftRing> anyCall(Random dice) {
        int a = some(dice, 9);
        int b = some(dice, 9);
        int t = some(dice, 14);
        int worth = some(dice, 60);
        switch (dice.nextInt(40)) {
            case 0:
                return ring -> noneIfNot(ring.dies(a, b));
            case 1:
                return ring -> noneIfNot(ring.lost(t));
            case 2:
            case 3:
                return ring -> feed(ring, "p" + (worth & 511) + ";d" + (a & 127) + ";k" + (b & 127));
            case 4:
            case 5:
                return ring -> ring.custom(worth / 2);
            case 6:
            case 7:
                return ring -> ring.man(a);
            case 8:
                return ring -> noneIfNot(ring.islands(a));
            case 9:
            case 10:
                return ring -> ring.closings(a);
            case 11:
            case 12:
            case 13:
            case 14:
                return ring -> noneIfNot(ring.partners(a, b));
            case 15:
            case 16:
            case 17:
            case 18:
                return ring -> ring.treasure(t & 1, worth, a);
            case 19:
            case 20:
            case 21:
                return GiftRing::season;
            default:
                return ring -> ring.give(ring.told(t, 2), a, t);
        }
    }
}
