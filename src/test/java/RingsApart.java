import com.sun.management.ThreadMXBean;
import java.lang.management.ManagementFactory;
import java.util.ArrayList;
import java.util.List;
import java.util.Random;
import java.util.function.IntSupplier;
import java.util.function.Supplier;
import java.util.function.ToIntFunction;

/**
 * What holds for a ring as a whole: it shares nothing with another one, the same calls have the same
 * answers, no call throws for any arguments in any state, and what a run of calls makes stays small.
 */
public final class RingsApart extends RingLife {
    private static final int CALLS = 512;
    private static final int[] ANY = {
        LOW, LOW + 1, -201, -33, -2, -1, 0, 1, 2, 3, 5, 6, 7, 8, 9, 15, 16, 17, 23, 24, 25, 31, 32, 33, 40, 41, 63, 64, 65,
        79, 80, 81, 199, 200, 201, 255, 256, 999, 1000, 1001, HIGH - 1, HIGH,
    };

    private static List<ToIntFunction<GiftRing>> someCalls(int seed) {
        Random dice = new Random(seed);
        List<ToIntFunction<GiftRing>> calls = new ArrayList<>();
        for (int i = 0; i < 200; i++) {
            calls.add(anyCall(dice));
        }
        return calls;
    }

    private static List<Integer> answersAlone(List<ToIntFunction<GiftRing>> calls) {
        GiftRing ring = closedRing(5);
        List<Integer> all = new ArrayList<>();
        for (ToIntFunction<GiftRing> call : calls) {
            all.add(call.applyAsInt(ring));
        }
        all.addAll(portrait(ring));
        return all;
    }

    private static void livingSideBySide() {
        about("All memory is the ring's own");
        for (int seed = 0; seed < 100; seed++) {
            List<ToIntFunction<GiftRing>> calls = someCalls(seed);
            List<ToIntFunction<GiftRing>> others = someCalls(seed + 1000);
            List<Integer> all = new ArrayList<>();
            List<Integer> allOfOther = new ArrayList<>();
            GiftRing ring = closedRing(5);
            GiftRing other = closedRing(5);
            for (int i = 0; i < calls.size(); i++) {
                all.add(calls.get(i).applyAsInt(ring));
                allOfOther.add(others.get(i).applyAsInt(other));
                // One that is made meanwhile and filled must not be seen in the two, either.
                portrait(busyRing());
            }
            all.addAll(portrait(ring));
            allOfOther.addAll(portrait(other));
            due("seed " + seed + ", one answers as alone", all.equals(answersAlone(calls)), true);
            due("seed " + seed + ", the other too", allOfOther.equals(answersAlone(others)), true);
        }
    }

    private static void aRowOfItsOwn() {
        about("All memory is the ring's own (the row of closings, the tape, custom)");
        GiftRing ring = debtor(new int[] {30}, new int[] {});
        GiftRing other = debtor(new int[] {30}, new int[] {});
        ring.treasure(0, 30, 1);
        due("closings", ring.closings(1), 1);
        due("closings of the other", other.closings(1), 0);
        due("closing", ring.closing(0), 1);
        due("closing of the other", other.closing(0), NONE);
        feed(ring, "p7;d8;k9;h10");
        due("the other's tape", other.count(8), 0);
        due("custom", ring.custom(12), 0);
        int[] terms = {7, 8, 9, 10};
        int[] termsOfOther = {100, 4, 2, 6};
        int[] atFirst = {80, 4, 2, 6};
        GiftRing fresh = new GiftRing();
        for (int i = 0; i < 4; i++) {
            due("count(" + (10 + i) + ")", ring.count(10 + i), terms[i]);
            due("count(" + (10 + i) + ") of the other", other.count(10 + i), termsOfOther[i]);
            due("count(" + (10 + i) + ") of a new one", fresh.count(10 + i), atFirst[i]);
        }
    }

    private static void sameCallsSameAnswers() {
        about("the same calls always give the same answers");
        for (int seed = 0; seed < 100; seed++) {
            List<ToIntFunction<GiftRing>> calls = someCalls(seed);
            due("seed " + seed, answersAlone(calls).equals(answersAlone(calls)), true);
        }
    }

    private static void mustNotThrow(String what, IntSupplier call) {
        try {
            call.getAsInt();
            due(what, true, true);
        } catch (RuntimeException | StackOverflowError thrown) {
            due(what + " threw " + thrown + ": whether it ended", false, true);
        }
    }

    /** Rings in which no more of something can be, rings with a bit of all, and a new one. */
    private static List<Supplier<GiftRing>> ringsOfAllKinds() {
        return List.of(GiftRing::new, RingLife::busyRing, RingLife::ringWithAGift, RingLife::quarrellingRing,
            RingLife::ringWithAFullTape, RingLife::fullRing, RingLife::ringWithAFullWay, RingLife::ringWithAllDebts,
            RingLife::ringAtItsEnd);
    }

    private static void noCallThrows() {
        about("No call may ever throw");
        for (Supplier<GiftRing> kind : ringsOfAllKinds()) {
            GiftRing ring = kind.get();
            for (int a : ANY) {
                callWithOne(ring, a);
                for (int b : ANY) {
                    callWithTwo(ring, a, b);
                    for (int c : ANY) {
                        callWithThree(ring, a, b, c);
                    }
                }
            }
            // These change the ring, so they come last and then the ring must still answer.
            changeByAll(ring);
            mustNotThrow("a portrait after all that", () -> portrait(ring).size());
            mustNotThrow("life after all that", () -> lifeMore(ring).size());
        }
    }

    private static void callWithOne(GiftRing ring, int a) {
        mustNotThrow("count(" + a + ")", () -> ring.count(a));
        mustNotThrow("closings(" + a + ")", () -> ring.closings(a));
        mustNotThrow("closing(" + a + ")", () -> ring.closing(a));
    }

    private static void callWithTwo(GiftRing ring, int a, int b) {
        String told = "(" + a + ", " + b + ")";
        mustNotThrow("known" + told, () -> ring.known(a, b));
        mustNotThrow("way" + told, () -> ring.way(a, b));
        mustNotThrow("soonest" + told, () -> ring.soonest(a, b));
        mustNotThrow("look" + told, () -> ring.look(a, b));
        mustNotThrow("told" + told, () -> ring.told(a, b));
        mustNotThrow("debt" + told, () -> ring.debt(a, b));
        mustNotThrow("quarrel" + told, () -> ring.quarrel(a, b));
    }

    private static void callWithThree(GiftRing ring, int a, int b, int c) {
        mustNotThrow("through(" + a + ", " + b + ", " + c + ")", () -> ring.through(a, b, c));
        mustNotThrow("give(" + a + ", " + b + ", " + c + ")", () -> ring.give(a, b, c));
    }

    private static void changeByAll(GiftRing ring) {
        for (int a : ANY) {
            mustNotThrow("islands(" + a + ")", () -> ring.islands(a) ? 1 : 0);
            mustNotThrow("man(" + a + ")", () -> ring.man(a));
            for (int b : ANY) {
                mustNotThrow("partners(" + a + ", " + b + ")", () -> ring.partners(a, b) ? 1 : 0);
                mustNotThrow("treasure(0, " + a + ", " + b + ")", () -> ring.treasure(0, a, b));
                mustNotThrow("treasure(" + a + ", 5, " + b + ")", () -> ring.treasure(a, 5, b));
            }
            mustNotThrow("feed(" + a + " ..)", () -> ring.feed(a, ~a, a, ~a, a));
            mustNotThrow("custom(" + a + ")", () -> ring.custom(a));
            mustNotThrow("season", ring::season);
        }
        for (int a : ANY) {
            mustNotThrow("lost(" + a + ")", () -> a % 3 == 0 && ring.lost(a) ? 1 : 0);
            for (int b : ANY) {
                mustNotThrow("dies(" + a + ", " + b + ")", () -> ring.dies(a, b) ? 1 : 0);
            }
        }
    }

    /** A ring's life of 512 calls in which as much is made as can be. */
    private static int aFullLife() {
        GiftRing ring = emptyRing();
        int calls = 7;
        for (int m = 3; m < 16; m++, calls++) {
            ring.man(m % 3);
        }
        for (int t = 0; t < 24; t++, calls++) {
            ring.treasure(0, 100, 0);
        }
        for (int i = 0; calls < CALLS; i++, calls++) {
            int giver = i / 25 % 3;
            if (i % 25 == 24) {
                ring.season();
            } else {
                ring.give(giver, (giver + 1) % 3, i % 25);
            }
        }
        return ring.count(5);
    }

    private static int manyQuestions(GiftRing ring) {
        int sum = 0;
        for (int i = 0; i < CALLS / 8; i++) {
            sum += ring.closings(i % 16) + ring.closing(i % 6) + ring.soonest(i % 24, i % 16)
                + ring.through(i % 24, i % 16, i % 4) + ring.known(i % 6, i % 24) + ring.look(i % 16, i % 8)
                + ring.debt(i, i % 8) + ring.count(i % 14);
        }
        return sum;
    }

    /** The fewest bytes of some turns, since the first ones also make what the machine needs. */
    private static long bytesMadeBy(IntSupplier calls) {
        ThreadMXBean threads = (ThreadMXBean) ManagementFactory.getThreadMXBean();
        long fewest = Long.MAX_VALUE;
        for (int turn = 0; turn < 20; turn++) {
            long before = threads.getCurrentThreadAllocatedBytes();
            calls.getAsInt();
            fewest = Math.min(fewest, threads.getCurrentThreadAllocatedBytes() - before);
        }
        return fewest;
    }

    private static void whatIsMadeStaysSmall() {
        about("What a run makes is counted: keep it small");
        due("debts of a full life", aFullLife(), 200);
        long life = bytesMadeBy(RingsApart::aFullLife);
        due("a full life makes " + life + " bytes: whether that is small", life < 200000, true);
        GiftRing ring = ringWithAllDebts();
        long asking = bytesMadeBy(() -> manyQuestions(ring));
        due("questions make " + asking + " bytes: whether that is small", asking < 1000, true);
    }

    public static void main(String[] args) {
        livingSideBySide();
        aRowOfItsOwn();
        sameCallsSameAnswers();
        noCallThrows();
        whatIsMadeStaysSmall();
        finish();
    }
}
