import java.util.ArrayList;
import java.util.Arrays;
import java.util.List;
import java.util.Random;
import java.util.TreeSet;

/**
 * Runs of mixed calls, from fixed seeds, on the class and on a second telling of the document that
 * keeps lists of what happened and tries all ways, so that a slip in one of them shows.
 */
public final class ModelRuns {
    private static final int RUNS = 3000;
    private static final int CALLS = 512;
    /** Beyond what is promised, so that ways and debts get full among mixed calls too. */
    private static final int LONG_CALLS = 2500;

    /** The document told again, as plainly as it goes. */
    private static final class Model {
        record News(int order, int season, int island, int holder) { }

        static final class Thing {
            int kind, worth, holder, came, given = -1;
            final List<Integer> way = new ArrayList<>();
            final List<News> news = new ArrayList<>();
        }

        static final class Owed {
            int from, to, kind, need, due, opened, closed = -1;
            boolean won;
        }

        final List<Integer> tape = new ArrayList<>();
        int p = 80, d = 4, k = 2, h = 6, islands = 6, season, order;
        final List<Integer> home = new ArrayList<>();
        final List<Integer> fame = new ArrayList<>();
        final TreeSet<Integer> dead = new TreeSet<>();
        final List<TreeSet<Integer>> partners = new ArrayList<>();
        final List<Thing> things = new ArrayList<>();
        final List<Owed> owed = new ArrayList<>();
        List<Integer> row = List.of();

        boolean living(int m) {
            return m >= 0 && m < home.size() && !dead.contains(m);
        }

        boolean thing(int t) {
            return t >= 0 && t < things.size();
        }

        int feed(int... words) {
            if (tape.size() > 20) {
                return -1;
            }
            for (int word : words) {
                for (int i = 3; i >= 0; i--) {
                    tape.add(word >> 8 * i & 0xff);
                }
            }
            return tape.size();
        }

        int custom(int n) {
            if (n < 0 || n > tape.size()) {
                return -1;
            }
            StringBuilder text = new StringBuilder();
            for (int i = 0; i < n; i++) {
                text.append((char) (int) tape.get(i));
            }
            tape.clear();
            return parse(text.toString());
        }

        int parse(String text) {
            int[] value = {80, 4, 2, 6};
            int at = 0;
            while (true) {
                int letter = at < text.length() ? "pdkh".indexOf(text.charAt(at)) : -1;
                if (letter < 0) {
                    return 100 + at;
                }
                int start = ++at;
                while (at < text.length() && "0123456789".indexOf(text.charAt(at)) >= 0) {
                    if (at - start == 4) {
                        return 300 + at;
                    }
                    at++;
                }
                if (at == start) {
                    return 200 + at;
                }
                int number = Integer.parseInt(text.substring(start, at));
                boolean can = switch (letter) {
                    case 0 -> number >= 1 && number <= 300;
                    case 1 -> number >= 1 && number <= 99;
                    default -> number <= 99;
                };
                if (!can) {
                    return 400 + start;
                }
                value[letter] = number;
                if (at == text.length()) {
                    break;
                }
                if (text.charAt(at) != ';') {
                    return 500 + at;
                }
                at++;
            }
            p = value[0];
            d = value[1];
            k = value[2];
            h = value[3];
            return 0;
        }

        int islands(int n) {
            if (n < 3 || n > 8 || !home.isEmpty()) {
                return 0;
            }
            islands = n;
            return 1;
        }

        int man(int island) {
            if (island < 0 || island >= islands || home.size() == 16) {
                return -1;
            }
            home.add(island);
            fame.add(0);
            partners.add(new TreeSet<>());
            return home.size() - 1;
        }

        int next(int island, int kind) {
            return Math.floorMod(island + (kind == 0 ? 1 : -1), islands);
        }

        int partners(int a, int b) {
            if (!living(a) || !living(b) || partners.get(a).contains(b)) {
                return 0;
            }
            int x = home.get(a);
            int y = home.get(b);
            if (next(x, 0) != y && next(y, 0) != x) {
                return 0;
            }
            partners.get(a).add(b);
            partners.get(b).add(a);
            return 1;
        }

        void comes(Thing it, int m) {
            it.holder = m;
            it.came = season;
            if (it.way.size() < 64) {
                it.way.add(m);
            }
            it.news.add(new News(order++, season, home.get(m), m));
        }

        int treasure(int kind, int worth, int m) {
            if (kind < 0 || kind > 1 || worth < 1 || worth > 999 || !living(m) || things.size() == 24) {
                return -1;
            }
            Thing it = new Thing();
            it.kind = kind;
            it.worth = worth;
            comes(it, m);
            things.add(it);
            return things.size() - 1;
        }

        boolean late(Owed it) {
            return it.closed < 0 && season > it.due;
        }

        boolean inQuarrel(int a, int b) {
            return owed.stream().anyMatch(o -> late(o) && (o.from == a && o.to == b || o.from == b && o.to == a));
        }

        int give(int m, int n, int t) {
            if (!living(m) || !living(n) || !thing(t)) {
                return -1;
            }
            Thing it = things.get(t);
            if (it.holder != m || it.given == season || it.way.size() == 64) {
                return -1;
            }
            if (!partners.get(m).contains(n) || home.get(n) != next(home.get(m), it.kind)) {
                return -1;
            }
            List<Owed> own = owed.stream()
                .filter(o -> o.closed < 0 && o.from == m && o.to == n && o.kind == 1 - it.kind).toList();
            Owed closes = null;
            for (int need = it.worth; need >= 0 && closes == null; need--) {
                int wanted = need;
                closes = own.stream().filter(o -> o.need == wanted).findFirst().orElse(null);
            }
            int answer;
            if (closes != null) {
                closes.closed = t;
                answer = 1;
            } else if (inQuarrel(m, n)) {
                return -1;
            } else if (!own.isEmpty()) {
                if (!own.get(0).won) {
                    own.get(0).due += k;
                }
                own.get(0).won = true;
                answer = 2;
            } else if (owed.size() == 200) {
                return -1;
            } else {
                Owed o = new Owed();
                o.from = n;
                o.to = m;
                o.kind = it.kind;
                o.need = (int) Math.ceil(p * it.worth / 100.0);
                o.due = season + d;
                o.opened = t;
                owed.add(o);
                answer = 0;
            }
            fame.set(m, fame.get(m) + (answer == 2 ? it.worth >> 1 : it.worth));
            it.given = season;
            comes(it, n);
            return answer;
        }

        int season() {
            if (season == 1000) {
                return -1;
            }
            season++;
            for (Thing it : things) {
                if (it.holder >= 0 && season - it.came > h) {
                    fame.set(it.holder, fame.get(it.holder) - (int) Math.ceil(it.worth / 10.0));
                }
            }
            return season;
        }

        int dies(int m, int heir) {
            if (!living(m) || !living(heir) || m == heir || !home.get(m).equals(home.get(heir))) {
                return 0;
            }
            dead.add(m);
            for (Thing it : things) {
                if (it.holder == m) {
                    comes(it, heir);
                }
            }
            for (Owed o : owed) {
                o.from = o.from == m ? heir : o.from;
                o.to = o.to == m ? heir : o.to;
            }
            partners.get(heir).addAll(partners.get(m));
            partners.get(m).clear();
            for (TreeSet<Integer> of : partners) {
                if (of.remove(m)) {
                    of.add(heir);
                }
            }
            return 1;
        }

        int lost(int t) {
            if (!thing(t) || things.get(t).holder < 0) {
                return 0;
            }
            Thing it = things.get(t);
            it.news.add(new News(order++, season, home.get(it.holder), -2));
            it.holder = -1;
            return 1;
        }

        int known(int island, int t) {
            if (island < 0 || island >= islands || !thing(t)) {
                return -1;
            }
            int latest = -1;
            int answer = -1;
            for (News piece : things.get(t).news) {
                int on = Math.floorMod(piece.island - island, islands);
                int back = Math.floorMod(island - piece.island, islands);
                if (piece.season + Math.min(on, back) <= season && piece.order > latest) {
                    latest = piece.order;
                    answer = piece.holder;
                }
            }
            return answer;
        }

        int way(int t, int i) {
            return thing(t) && i >= 0 && i < things.get(t).way.size() ? things.get(t).way.get(i) : -1;
        }

        int closings(int m) {
            if (!living(m)) {
                return -1;
            }
            List<Integer> own = new ArrayList<>();
            for (int t = 0; t < things.size() && own.size() < 8; t++) {
                Thing it = things.get(t);
                if (it.holder == m && it.given != season && it.way.size() < 64) {
                    own.add(t);
                }
            }
            List<Owed> open = owed.stream().filter(o -> o.closed < 0 && o.from == m).limit(6).toList();
            row = new ArrayList<>();
            best = null;
            tryAll(open, own, new ArrayList<>());
            row = best;
            return (int) row.stream().filter(t -> t < 24).count();
        }

        List<Integer> best;

        void tryAll(List<Owed> open, List<Integer> own, List<Integer> soFar) {
            if (soFar.size() == open.size()) {
                if (best == null || better(soFar, best)) {
                    best = new ArrayList<>(soFar);
                }
                return;
            }
            Owed o = open.get(soFar.size());
            List<Integer> choices = new ArrayList<>(own);
            choices.add(24);
            for (int t : choices) {
                boolean can = t == 24 || !soFar.contains(t) && things.get(t).kind != o.kind
                    && things.get(t).worth >= o.need;
                if (can) {
                    soFar.add(t);
                    tryAll(open, own, soFar);
                    soFar.remove(soFar.size() - 1);
                }
            }
        }

        boolean better(List<Integer> one, List<Integer> other) {
            long oneMore = one.stream().filter(t -> t < 24).count() - other.stream().filter(t -> t < 24).count();
            if (oneMore != 0) {
                return oneMore > 0;
            }
            int worth = one.stream().mapToInt(this::worthOf).sum();
            int otherWorth = other.stream().mapToInt(this::worthOf).sum();
            if (worth != otherWorth) {
                return worth < otherWorth;
            }
            for (int i = 0; i < one.size(); i++) {
                if (!one.get(i).equals(other.get(i))) {
                    return one.get(i) < other.get(i);
                }
            }
            return false;
        }

        int worthOf(int t) {
            return t < 24 ? things.get(t).worth : 0;
        }

        int closing(int i) {
            return i >= 0 && i < row.size() && row.get(i) < 24 ? row.get(i) : -1;
        }

        List<Integer> route(int t, int m) {
            if (!thing(t) || things.get(t).holder < 0 || !living(m)) {
                return null;
            }
            // Rows of men of one length in rising order, only the first row to each man kept.
            List<List<Integer>> rows = new ArrayList<>();
            rows.add(List.of(things.get(t).holder));
            TreeSet<Integer> seen = new TreeSet<>(rows.get(0));
            while (!rows.isEmpty()) {
                List<List<Integer>> longer = new ArrayList<>();
                for (List<Integer> way : rows) {
                    int last = way.get(way.size() - 1);
                    if (last == m) {
                        return way;
                    }
                    for (int b : partners.get(last)) {
                        if (home.get(b) == next(home.get(last), things.get(t).kind) && seen.add(b)) {
                            List<Integer> more = new ArrayList<>(way);
                            more.add(b);
                            longer.add(more);
                        }
                    }
                }
                rows = longer;
            }
            return null;
        }

        int soonest(int t, int m) {
            List<Integer> way = route(t, m);
            return way == null ? -1 : way.size() - 1;
        }

        int through(int t, int m, int i) {
            List<Integer> way = route(t, m);
            return way == null || i < 0 || i >= way.size() ? -1 : way.get(i);
        }

        int look(int m, int what) {
            if (m < 0 || m >= home.size()) {
                return -1;
            }
            return switch (what) {
                case 0 -> home.get(m);
                case 1 -> living(m) ? 1 : 0;
                case 2 -> fame.get(m);
                case 3 -> (int) things.stream().filter(it -> it.holder == m).count();
                case 4 -> (int) owed.stream().filter(o -> o.closed < 0 && o.from == m).count();
                case 5 -> (int) owed.stream().filter(o -> o.closed < 0 && o.to == m).count();
                case 6 -> (int) owed.stream().filter(o -> late(o) && o.from == m).count();
                case 7 -> partners.get(m).size();
                default -> -1;
            };
        }

        int told(int t, int what) {
            if (!thing(t)) {
                return -1;
            }
            Thing it = things.get(t);
            int[] answers = {it.kind, it.worth, it.holder, it.came, it.way.size()};
            return what >= 0 && what < answers.length ? answers[what] : -1;
        }

        int debt(int i, int what) {
            if (i < 0 || i >= owed.size()) {
                return -1;
            }
            Owed o = owed.get(i);
            int state = o.closed >= 0 ? 1 : late(o) ? 2 : 0;
            int[] answers = {o.from, o.to, o.kind, o.need, o.due, state, o.opened, o.closed};
            return what >= 0 && what < answers.length ? answers[what] : -1;
        }

        int quarrel(int a, int b) {
            if (a < 0 || b < 0 || a >= home.size() || b >= home.size() || a == b) {
                return -1;
            }
            return inQuarrel(a, b) ? 1 : 0;
        }

        int count(int what) {
            int[] answers = {
                islands, home.size(), home.size() - dead.size(), things.size(),
                (int) things.stream().filter(it -> it.holder < 0).count(), owed.size(),
                (int) owed.stream().filter(o -> o.closed < 0).count(), season, tape.size(), -1, p, d, k, h,
            };
            return what >= 0 && what < answers.length ? answers[what] : -1;
        }
    }

    private final Random dice;
    private final GiftRing ring = new GiftRing();
    private final Model model = new Model();
    private final StringBuilder told = new StringBuilder();
    private boolean asDue = true;
    private boolean lasting = false;
    private int calls = 0;
    private final int[] kinds = new int[3];

    private ModelRuns(long seed) {
        dice = new Random(seed);
    }

    private int upTo(int n) {
        return dice.nextInt(n + 1);
    }

    /** Mostly one of the numbers below n, seldom one at or beyond the edges. */
    private int near(int n) {
        if (dice.nextInt(60) == 0) {
            int[] odd = {-1, n, n + 1, 16, 24, 32, 64, 200, Integer.MAX_VALUE, Integer.MIN_VALUE};
            return odd[dice.nextInt(odd.length)];
        }
        return n > 0 ? dice.nextInt(n) : 0;
    }

    private int aMan() {
        return near(model.home.size());
    }

    private int aThing() {
        return near(model.things.size());
    }

    private int check(String call, int got, int want) {
        calls++;
        told.append(call).append(" = ").append(got).append('\n');
        if (got != want && asDue) {
            asDue = false;
            told.append("    due is ").append(want).append('\n');
        }
        return got;
    }

    private int flag(boolean b) {
        return b ? 1 : 0;
    }

    private void feedAndRead(String text) {
        int[] w = new int[5];
        for (int i = 0; i < 20; i++) {
            w[i / 4] = w[i / 4] << 8 | (i < text.length() ? text.charAt(i) : 0);
        }
        check("feed " + text, ring.feed(w[0], w[1], w[2], w[3], w[4]), model.feed(w));
        int n = dice.nextInt(20) == 0 ? near(45) : text.length();
        if (dice.nextInt(10) > 0) {
            check("custom(" + n + ")", ring.custom(n), model.custom(n));
        }
    }

    private String aText() {
        StringBuilder text = new StringBuilder();
        int clauses = 1 + upTo(3);
        for (int i = 0; i < clauses; i++) {
            text.append(i == 0 ? "" : ";").append("pdkh".charAt(upTo(3))).append(upTo(dice.nextInt(4) == 0 ? 320 : 99));
        }
        for (int slips = dice.nextInt(3) - 1; slips > 0; slips--) {
            text.setCharAt(dice.nextInt(text.length()), "pdkh;0129x \u00ff".charAt(upTo(11)));
        }
        return text.length() > 20 ? text.substring(0, 20) : text.toString();
    }

    private void people(int islands, int men, int things) {
        check("islands(" + islands + ")", flag(ring.islands(islands)), model.islands(islands));
        for (int i = 0; i < men; i++) {
            int island = dice.nextInt(islands);
            check("man(" + island + ")", ring.man(island), model.man(island));
        }
        for (int a = 0; a < men; a++) {
            for (int b = 0; b < a && calls < CALLS / 3; b++) {
                if (dice.nextInt(4) > 0) {
                    check("partners(" + a + ", " + b + ")", flag(ring.partners(a, b)), model.partners(a, b));
                }
            }
        }
        for (int i = 0; i < things; i++) {
            makeThing();
        }
    }

    private void makeThing() {
        int kind = dice.nextInt(40) == 0 ? 2 : upTo(1);
        int worth = dice.nextInt(3) == 0 ? near(1001) : 1 + dice.nextInt(60);
        int m = aMan();
        check("treasure(" + kind + ", " + worth + ", " + m + ")", ring.treasure(kind, worth, m),
            model.treasure(kind, worth, m));
    }

    /** A gift that has a fair chance: the holder, and a man to whom it can go, if there is one. */
    private void tryGift() {
        int t = aThing();
        int m = aMan();
        int n = aMan();
        if (model.thing(t) && model.things.get(t).holder >= 0 && dice.nextInt(20) > 0) {
            m = model.things.get(t).holder;
            List<Integer> can = new ArrayList<>(model.partners.get(m));
            int want = model.next(model.home.get(m), model.things.get(t).kind);
            can.removeIf(b -> model.home.get(b) != want);
            if (!can.isEmpty()) {
                n = can.get(dice.nextInt(can.size()));
            }
        }
        int got = check("give(" + m + ", " + n + ", " + t + ")", ring.give(m, n, t), model.give(m, n, t));
        if (got >= 0) {
            kinds[got]++;
        }
    }

    private void change(int seasonsOf100) {
        // Quarrels and losses would end a long run's gifts early, so it has few of what brings them.
        int turn = dice.nextInt(lasting && dice.nextInt(20) > 0 ? 88 : 100);
        if (turn < seasonsOf100) {
            check("season()", ring.season(), model.season());
        } else if (turn < 88) {
            tryGift();
        } else if (turn < 92) {
            makeThing();
        } else if (turn < 93) {
            int t = aThing();
            check("lost(" + t + ")", flag(ring.lost(t)), model.lost(t));
        } else if (turn < 95) {
            int m = aMan();
            int heir = aMan();
            check("dies(" + m + ", " + heir + ")", flag(ring.dies(m, heir)), model.dies(m, heir));
        } else if (turn < 97) {
            feedAndRead(aText());
        } else if (turn < 98) {
            int n = near(9);
            check("islands(" + n + ")", flag(ring.islands(n)), model.islands(n));
            check("man(" + n + ")", ring.man(n), model.man(n));
        } else {
            int a = aMan();
            int b = aMan();
            check("partners(" + a + ", " + b + ")", flag(ring.partners(a, b)), model.partners(a, b));
        }
    }

    private void ask() {
        int t = aThing();
        int m = aMan();
        int i = near(8);
        switch (dice.nextInt(11)) {
            case 0 -> check("known(" + i + ", " + t + ")", ring.known(i, t), model.known(i, t));
            case 1 -> {
                int at = near(66);
                check("way(" + t + ", " + at + ")", ring.way(t, at), model.way(t, at));
            }
            case 2 -> check("closings(" + m + ")", ring.closings(m), model.closings(m));
            case 3 -> check("closing(" + i + ")", ring.closing(i), model.closing(i));
            case 4 -> check("soonest(" + t + ", " + m + ")", ring.soonest(t, m), model.soonest(t, m));
            case 5 -> check("through(" + t + ", " + m + ", " + i + ")", ring.through(t, m, i), model.through(t, m, i));
            case 6 -> check("look(" + m + ", " + i + ")", ring.look(m, i), model.look(m, i));
            case 7 -> check("told(" + t + ", " + i + ")", ring.told(t, i), model.told(t, i));
            case 8 -> {
                int d = near(model.owed.size());
                check("debt(" + d + ", " + i + ")", ring.debt(d, i), model.debt(d, i));
            }
            case 9 -> {
                int b = aMan();
                check("quarrel(" + m + ", " + b + ")", ring.quarrel(m, b), model.quarrel(m, b));
            }
            default -> {
                int what = near(15);
                check("count(" + what + ")", ring.count(what), model.count(what));
            }
        }
    }

    /** All that can be asked without end, at the end of a run. */
    private void askAll() {
        for (int m = 0; m < 16; m++) {
            for (int what = 0; what < 8; what++) {
                check("look(" + m + ", " + what + ")", ring.look(m, what), model.look(m, what));
            }
            check("closings(" + m + ")", ring.closings(m), model.closings(m));
            for (int i = 0; i < 6; i++) {
                check("closing(" + i + ")", ring.closing(i), model.closing(i));
            }
            for (int t = 0; t < 24; t++) {
                for (int i = 0; i < 4; i++) {
                    check("through(" + t + ", " + m + ", " + i + ")", ring.through(t, m, i), model.through(t, m, i));
                }
            }
        }
        for (int t = 0; t < 24; t++) {
            for (int i = 0; i < 66; i++) {
                check("way(" + t + ", " + i + ")", ring.way(t, i), model.way(t, i));
            }
            for (int i = 0; i < 9; i++) {
                check("known(" + i + ", " + t + ")", ring.known(i, t), model.known(i, t));
                check("told(" + t + ", " + i + ")", ring.told(t, i), model.told(t, i));
            }
        }
        for (int d = 0; d < 201; d++) {
            for (int what = 0; what < 9; what++) {
                check("debt(" + d + ", " + what + ")", ring.debt(d, what), model.debt(d, what));
            }
        }
    }

    private boolean play(int form) {
        boolean small = form % 3 == 0;
        lasting = form % 20 == 0;
        if (form % 4 != 0 || lasting) {
            feedAndRead(form % 4 == 1 || lasting ? "p100;d99;k3;h99" : aText());
        }
        if (lasting) {
            people(3, 6 + upTo(10), 1 + upTo(form % 40 == 0 ? 2 : 23));
        } else if (small) {
            people(3, 3 + upTo(3), form % 2 == 0 ? 1 + upTo(3) : 24);
        } else {
            people(3 + upTo(5), 6 + upTo(10), 4 + upTo(18));
        }
        int asking = form % 5 == 0 ? 10 : 50;
        int seasonsOf100 = small && form % 2 == 0 || form % 40 == 0 ? 30 : 3 + upTo(20);
        while (calls < (lasting ? LONG_CALLS : CALLS)) {
            if (dice.nextInt(100) < asking) {
                ask();
            } else {
                change(seasonsOf100);
            }
        }
        askAll();
        return asDue;
    }

    public static void main(String[] args) {
        int wrong = 0;
        int[] gifts = new int[3];
        int fullWays = 0;
        int fullDebts = 0;
        for (int seed = 0; seed < RUNS; seed++) {
            ModelRuns run = new ModelRuns(seed);
            if (!run.play(seed)) {
                wrong++;
                if (wrong <= 3) {
                    String text = run.told.toString();
                    System.out.println("seed " + seed + ":\n" + text.substring(0, text.indexOf('\n', text.indexOf("due is")) + 1));
                }
            }
            for (int i = 0; i < 3; i++) {
                gifts[i] += run.kinds[i];
            }
            fullWays += run.model.things.stream().anyMatch(it -> it.way.size() == 64) ? 1 : 0;
            fullDebts += run.model.owed.size() == 200 ? 1 : 0;
        }
        System.out.println(RUNS + " runs, " + wrong + " not as due; openings, returns, meanwhile: "
            + Arrays.toString(gifts) + "; runs with a full way " + fullWays + ", with all debts " + fullDebts);
        if (wrong != 0) {
            System.exit(1);
        }
    }
}
