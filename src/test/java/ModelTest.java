import java.math.BigInteger;
import java.util.ArrayList;
import java.util.Arrays;
import java.util.HashMap;
import java.util.List;
import java.util.Map;
import java.util.Random;

/**
 * Plays the same calls, drawn by a fixed seed, to the class and to a slow model that is written
 * anew from the document (snapshots, recursion, whole numbers without bounds), and compares every
 * answer, what is told behind it, and the digest.
 */
public final class ModelTest {
    private static final int RUNS = 1500, CALLS = 512;
    private static final String[] NAMES = {"row", "lay", "at", "tear", "copy", "mean", "text", "put", "fault",
        "land", "one", "mark", "gain", "year", "push", "house", "undo", "keep", "on", "votes", "carries", "buy",
        "then", "when", "round", "course", "fits", "next", "kinds", "test", "way", "parts", "duel", "odds", "mid",
        "lots", "asked", "upper", "lower", "count", "finding", "findings", "digest"};
    private static final int[] ARGUMENTS = {2, 3, 2, 1, 5, 1, 2, 3, 1,
        1, 2, 2, 2, 0, 1, 2, 1, 1, 1, 1, 0, 1,
        1, 1, 0, 2, 1, 1, 2, 2, 2, 2, 1, 2, 1,
        2, 0, 0, 0, 1, 0, 1, 0};

    public static void main(String[] args) {
        int[] answered = new int[NAMES.length];
        for (int run = 0; run < RUNS; run++) {
            if (!new Play(run).agrees(answered)) {
                System.exit(1);
            }
        }
        for (int c = 0; c < NAMES.length; c++) {
            if (answered[c] < 300) {
                System.out.println(NAMES[c] + " was answered without refusal only " + answered[c] + " times");
                System.exit(1);
            }
        }
        System.out.println("class and model agree in " + RUNS + " runs");
    }

    private static final class Play {
        private final Random random;
        private final int run;
        private final VotedHill hill = new VotedHill();
        private final Model model = new Model();
        private final List<String> log = new ArrayList<>();
        private final List<int[]> script = new ArrayList<>();

        Play(int run) {
            this.run = run;
            this.random = new Random(run * 7919L + 13);
        }

        boolean agrees(int[] answered) {
            for (int c = 0; c < CALLS; c++) {
                if (script.isEmpty()) {
                    script.addAll(nextCalls());
                }
                int[] call = script.remove(0);
                long got = ask(call);
                long want = model.answer(call);
                log.add(NAMES[call[0]] + Arrays.toString(Arrays.copyOfRange(call, 1, call.length)) + " " + got);
                if (got != want || !sameTold()) {
                    System.out.println("run " + run + ", due is " + want + ", asked " + model.told + ", " + model.upper
                        + " by " + model.lower + " behind:");
                    log.forEach(System.out::println);
                    return false;
                }
                if (got >= 0 || call[0] == 42) {
                    answered[call[0]]++;
                }
            }
            return true;
        }

        private boolean sameTold() {
            return hill.asked() == model.told && hill.upper() == model.upper && hill.lower() == model.lower
                && hill.finding() == model.finding && hill.digest() == model.digest();
        }

        private List<int[]> nextCalls() {
            int dice = random.nextInt(100);
            if (dice < 4 || model.now == null && dice < 50) {
                return landCalls(random.nextInt(5) == 0);
            }
            if (dice < 14) {
                return pairCalls();
            }
            int call = random.nextInt(NAMES.length);
            if (dice < 30) {
                call = 13 + random.nextInt(6);
            } else if (call == 9 && random.nextInt(4) > 0) {
                call = 40;
            }
            return List.of(drawn(call));
        }

        private int[] drawn(int call) {
            int[] parts = new int[ARGUMENTS[call] + 1];
            parts[0] = call;
            for (int a = 1; a < parts.length; a++) {
                parts[a] = number(call, a);
            }
            return parts;
        }

        private int number(int call, int argument) {
            int dice = random.nextInt(60);
            if (dice == 0) {
                return random.nextBoolean() ? Integer.MIN_VALUE : Integer.MAX_VALUE;
            }
            if (dice == 1) {
                return random.nextInt(90) - 20;
            }
            if (dice == 2) {
                return -1;
            }
            return usual(call, argument);
        }

        private int usual(int call, int argument) {
            String name = NAMES[call];
            boolean first = argument == 1;
            switch (name) {
                case "row": return random.nextInt(first ? 6 : random.nextInt(4) == 0 ? 42 : 9);
                case "lay": return argument == 3 ? random.nextInt(random.nextBoolean() ? 40 : 2000000000) - 15
                    : random.nextInt(6);
                case "copy": return random.nextInt(argument == 5 ? 4 : 6);
                case "text": return random.nextInt(first ? 4 : random.nextInt(4) == 0 ? 62 : 12);
                case "put": return argument == 3 ? random.nextInt(700) - 300 : random.nextInt(first ? 4 : 12);
                case "undo": return random.nextInt(4) == 0 ? random.nextInt(42) : model.deeds() - random.nextInt(3);
                case "gain": case "house": return random.nextInt(first ? 6 : 25);
                case "when": case "way": case "parts": return random.nextInt(random.nextBoolean() ? 9 : 25);
                case "then": return random.nextInt(42);
                case "odds": return random.nextInt(first ? 5 : 14);
                case "mid": return random.nextInt(14);
                case "lots": return first ? random.nextInt(random.nextBoolean() ? 4 : 22) : random.nextInt(Integer.MAX_VALUE);
                case "count": return random.nextInt(12);
                case "course": return random.nextInt(6);
                case "duel": return random.nextInt(8);
                case "keep": case "on": return random.nextInt(3);
                case "fault": case "land": return random.nextInt(4);
                default: return random.nextInt(6);
            }
        }

        private List<int[]> landCalls(boolean spoilt) {
            StringBuilder text = new StringBuilder(blanks());
            int columns = 3 + random.nextInt(3);
            int lines = 3 + random.nextInt(3);
            text.append('l').append(columns).append(lines).append(random.nextInt(columns)).append(random.nextInt(lines));
            int people = spoilt ? random.nextInt(8) : 1 + random.nextInt(6);
            for (int i = 0; i < people; i++) {
                text.append(blanks()).append("fvwgmh".charAt(random.nextInt(6))).append(random.nextInt(columns))
                    .append(random.nextInt(lines)).append(1 + random.nextInt(random.nextBoolean() ? 9 : 3));
            }
            text.append(blanks());
            if (spoilt && random.nextBoolean()) {
                text.setCharAt(random.nextInt(text.length()), " lfvx0123456789".charAt(random.nextInt(15)));
            }
            if (spoilt && random.nextBoolean()) {
                text.setLength(random.nextInt(text.length()));
            }
            int t = random.nextInt(4);
            List<int[]> calls = new ArrayList<>();
            int size = Math.min(60, text.length());
            calls.add(new int[] {6, t, size});
            for (int i = 0; i < size; i++) {
                if (text.charAt(i) != ' ') {
                    calls.add(new int[] {7, t, i, text.charAt(i) + 256 * random.nextInt(3)});
                }
            }
            calls.add(new int[] {8, t});
            calls.add(new int[] {9, t});
            return calls;
        }

        private String blanks() {
            return "  ".substring(random.nextInt(3));
        }

        private List<int[]> pairCalls() {
            int r = random.nextInt(6);
            int pairs = random.nextInt(4);
            int i = random.nextInt(6);
            boolean kinds = random.nextBoolean();
            int cell = model.now == null ? 0 : random.nextInt(model.now.columns * model.now.lines);
            int likeKind = random.nextInt(6);
            List<int[]> calls = new ArrayList<>();
            calls.add(new int[] {0, r, 2 * pairs + (random.nextInt(8) == 0 ? 1 : 0)});
            for (int p = 0; p < pairs; p++) {
                int first = kinds ? random.nextInt(random.nextInt(9) == 0 ? 26 : 9) : random.nextInt(random.nextInt(9) == 0 ? 7 : 3);
                int gained = random.nextInt(6) == 0 ? random.nextInt(32) : likely(kinds, first, i, cell, likeKind);
                calls.add(new int[] {1, r, 2 * p, first});
                calls.add(new int[] {1, r, 2 * p + 1, gained});
            }
            if (kinds) {
                calls.add(new int[] {28, i, r});
                calls.add(new int[] {29, i, r});
            } else {
                calls.add(new int[] {26, r});
                calls.add(new int[] {27, r});
            }
            return calls;
        }

        private int likely(boolean kinds, int first, int i, int cell, int likeKind) {
            State now = model.now;
            if (now == null || (kinds ? i : first) >= now.people.size()) {
                return 0;
            }
            return kinds ? now.gain(likeKind, now.people.get(i)[1], first)
                : now.gain(now.people.get(first)[0], now.people.get(first)[1], cell);
        }

        private long ask(int[] c) {
            switch (NAMES[c[0]]) {
                case "row": return hill.row(c[1], c[2]);
                case "lay": return hill.lay(c[1], c[2], c[3]);
                case "at": return hill.at(c[1], c[2]);
                case "tear": return hill.tear(c[1]);
                case "copy": return hill.copy(c[1], c[2], c[3], c[4], c[5]);
                case "mean": return hill.mean(c[1]);
                case "text": return hill.text(c[1], c[2]);
                case "put": return hill.put(c[1], c[2], c[3]);
                case "fault": return hill.fault(c[1]);
                case "land": return hill.land(c[1]);
                case "one": return hill.one(c[1], c[2]);
                case "mark": return hill.mark(c[1], c[2]);
                case "gain": return hill.gain(c[1], c[2]);
                case "year": return hill.year();
                case "push": return hill.push(c[1]);
                case "house": return hill.house(c[1], c[2]);
                case "undo": return hill.undo(c[1]);
                case "keep": return hill.keep(c[1]);
                case "on": return hill.on(c[1]);
                case "votes": return hill.votes(c[1]);
                case "carries": return hill.carries();
                case "buy": return hill.buy(c[1]);
                case "then": return hill.then(c[1]);
                case "when": return hill.when(c[1]);
                case "round": return hill.round();
                case "course": return hill.course(c[1], c[2]);
                case "fits": return hill.fits(c[1]);
                case "next": return hill.next(c[1]);
                case "kinds": return hill.kinds(c[1], c[2]);
                case "test": return hill.test(c[1], c[2]);
                case "way": return hill.way(c[1], c[2]);
                case "parts": return hill.parts(c[1], c[2]);
                case "duel": return hill.duel(c[1]);
                case "odds": return hill.odds(c[1], c[2]);
                case "mid": return hill.mid(c[1]);
                case "lots": return hill.lots(c[1], c[2]);
                case "asked": return hill.asked();
                case "upper": return hill.upper();
                case "lower": return hill.lower();
                case "count": return hill.count(c[1]);
                case "finding": return hill.finding();
                case "findings": return hill.findings(c[1]);
                default: return hill.digest();
            }
        }
    }

    /** A LAND at one time; copied for each DEED, so that undoing is going back to a copy. */
    private static final class State {
        int columns;
        int lines;
        int mountain;
        int back;
        int years;
        /** Each: KIND, HOUSE, HEARTHS. */
        List<int[]> people = new ArrayList<>();

        State copy() {
            State other = new State();
            other.columns = columns;
            other.lines = lines;
            other.mountain = mountain;
            other.back = back;
            other.years = years;
            for (int[] person : people) {
                other.people.add(person.clone());
            }
            return other;
        }

        int gain(int kind, int house, int cell) {
            int south = cell / columns - house / columns;
            int far = Math.abs(south) + Math.abs(cell % columns - house % columns);
            int[] all = {far, far + (south < 0 ? 3 : 0), 9 - far, 0, far == 0 ? 0 : 18 - 2 * far, far == 1 ? 5 : 0};
            return all[kind];
        }

        int gain(int i, int cell) {
            return gain(people.get(i)[0], people.get(i)[1], cell);
        }

        int total(int cell) {
            int sum = 0;
            for (int i = 0; i < people.size(); i++) {
                sum += people.get(i)[2] * gain(i, cell);
            }
            return sum;
        }

        /** The CELL a WAY from a CELL; null: there is none. */
        Integer step(int cell, int way) {
            int column = cell % columns + new int[] {0, 0, 1, 0, -1}[way];
            int line = cell / columns + new int[] {0, -1, 0, 1, 0}[way];
            return column < 0 || line < 0 || column >= columns || line >= lines ? null : columns * line + column;
        }

        List<Integer> ways() {
            List<Integer> open = new ArrayList<>();
            for (int way = 0; way < 5; way++) {
                if (step(mountain, way) != null && (way == 0 || way != back)) {
                    open.add(way);
                }
            }
            return open;
        }

        int vote(int i) {
            List<Integer> gains = new ArrayList<>();
            for (int way : ways()) {
                gains.add(gain(i, step(mountain, way)));
            }
            int most = gains.stream().max(Integer::compare).get();
            int kind = people.get(i)[0];
            boolean alike = gains.stream().distinct().count() == 1;
            return alike && (kind == 3 || kind == 5) ? -9 : ways().get(gains.indexOf(most));
        }

        int[] votes() {
            int[] votes = new int[people.size()];
            for (int i = 0; i < votes.length; i++) {
                votes[i] = vote(i);
            }
            return votes;
        }

        int[] heaps(int[] votes) {
            int[] heaps = new int[5];
            for (int i = 0; i < votes.length; i++) {
                if (votes[i] >= 0) {
                    heaps[votes[i]] += people.get(i)[2];
                }
            }
            return heaps;
        }

        static int lead(int[] heaps) {
            int[] sorted = heaps.clone();
            Arrays.sort(sorted);
            return sorted[4] - sorted[3];
        }

        static int carried(int[] heaps) {
            int winner = 0;
            for (int way = 0; way < 5; way++) {
                winner = heaps[way] > heaps[winner] ? way : winner;
            }
            return lead(heaps) == 0 ? 0 : winner;
        }

        int pass() {
            int way = carried(heaps(votes()));
            go(way);
            years++;
            return way;
        }

        void go(int way) {
            mountain = step(mountain, way);
            back = new int[] {0, 3, 4, 1, 2}[way];
        }

        int course(int n, List<Integer> best) {
            if (n == 0) {
                return 0;
            }
            int most = -1;
            for (int way : ways()) {
                State later = copy();
                later.go(way);
                List<Integer> rest = new ArrayList<>();
                int sum = later.total(later.mountain) + later.course(n - 1, rest);
                if (sum > most) {
                    most = sum;
                    best.clear();
                    best.add(way);
                    best.addAll(rest);
                }
            }
            return most;
        }

        int duel(int n, boolean much, int cell) {
            if (n == 0) {
                return total(cell);
            }
            int best = much ? -1 : Integer.MAX_VALUE;
            for (int way = 0; way < 5; way++) {
                if (step(cell, way) != null) {
                    int value = duel(n - 1, !much, step(cell, way));
                    best = much ? Math.max(best, value) : Math.min(best, value);
                }
            }
            return best;
        }

        /** Steps by spreading round by round; -9: no way. */
        int steps(int from, int to, int closed) {
            long shut = 1L << mountain | (closed < 0 ? 0 : 1L << closed);
            long reached = 1L << from & ~shut;
            for (int steps = 0; steps < 30; steps++) {
                if ((reached >> to & 1) != 0) {
                    return steps;
                }
                long wider = reached;
                for (int cell = 0; cell < columns * lines; cell++) {
                    for (int way = 1; way < 5 && (reached >> cell & 1) != 0; way++) {
                        wider |= step(cell, way) == null ? 0 : 1L << step(cell, way);
                    }
                }
                reached = wider & ~shut;
            }
            return -9;
        }
    }

    private static final class Model {
        private static final int BAD = -1, FULL = -2, STATE = -4, NONE = -9;
        final int[][] rows = new int[6][];
        final byte[][] texts = new byte[4][];
        State now = null;
        List<State> before = new ArrayList<>();
        final State[] keptNow = new State[3];
        final List<List<State>> keptBefore = new ArrayList<>(Arrays.asList(null, null, null));
        int told = 0;
        long upper = 0;
        long lower = 1;
        int finding = 0;
        final int[] findings = new int[6];

        int deeds() {
            return before.size();
        }

        private int find(int f) {
            finding = f;
            findings[f]++;
            return -3;
        }

        private int tell(int value, int answer) {
            told = value;
            return answer;
        }

        private boolean is(int i, int many) {
            return i >= 0 && i < many;
        }

        private int people() {
            return now == null ? 0 : now.people.size();
        }

        private int cells() {
            return now == null ? 0 : now.columns * now.lines;
        }

        long answer(int[] c) {
            switch (NAMES[c[0]]) {
                case "row": return row(c[1], c[2]);
                case "lay": case "at": return place(c);
                case "tear": return tear(c[1]);
                case "copy": return copy(c[1], c[2], c[3], c[4], c[5]);
                case "mean": return mean(c[1]);
                case "text": return text(c[1], c[2]);
                case "put": return put(c[1], c[2], c[3]);
                case "fault": return fault(c[1]);
                case "land": return land(c[1]);
                case "one": return is(c[1], people()) && is(c[2], 5) ? tell(one(c[1], c[2]), 1) : BAD;
                case "mark": return mark(c[1], c[2]);
                case "gain": return is(c[1], people()) && is(c[2], cells()) ? now.gain(c[1], c[2]) : BAD;
                case "year": return now == null ? STATE : deeds() == 40 ? FULL : year();
                case "push": return push(c[1]);
                case "house": return house(c[1], c[2]);
                case "undo": return undo(c[1]);
                case "keep": return keep(c[1]);
                case "on": return on(c[1]);
                case "votes": return votes(c[1]);
                case "carries": return now == null ? STATE
                    : tell(State.lead(now.heaps(now.votes())), State.carried(now.heaps(now.votes())));
                case "buy": return buy(c[1]);
                case "then": return then(c[1]);
                case "when": return when(c[1]);
                case "round": return round();
                case "course": return course(c[1], c[2]);
                case "fits": return fits(c[1], false);
                case "next": return fits(c[1], true);
                case "kinds": return kinds(c[1], c[2], false);
                case "test": return kinds(c[1], c[2], true);
                case "way": return way(c[1], c[2]);
                case "parts": return parts(c[1], c[2]);
                case "duel": return !is(c[1], 7) ? BAD : now == null ? STATE : now.duel(c[1], true, now.mountain);
                case "odds": return !is(c[1], 5) ? BAD : chance(c[1], c[2]);
                case "mid": return chance(-1, c[1]);
                case "lots": return lots(c[1], c[2]);
                case "asked": return told;
                case "upper": return upper;
                case "lower": return lower;
                case "count": return is(c[1], 11) ? count(c[1]) : BAD;
                case "finding": return finding;
                case "findings": return is(c[1] - 1, 5) ? findings[c[1]] : BAD;
                default: return digest();
            }
        }

        private int row(int r, int n) {
            if (!is(r, 6) || n > 40) {
                return BAD;
            }
            if (n < 0) {
                return find(5);
            }
            rows[r] = new int[n];
            return n;
        }

        private int place(int[] c) {
            if (!is(c[1], 6)) {
                return BAD;
            }
            if (rows[c[1]] == null) {
                return find(1);
            }
            if (!is(c[2], rows[c[1]].length)) {
                return find(2);
            }
            told = rows[c[1]][c[2]];
            if (c.length == 4) {
                rows[c[1]][c[2]] = c[3];
            }
            return 1;
        }

        private int tear(int r) {
            if (!is(r, 6)) {
                return BAD;
            }
            if (rows[r] == null) {
                return find(1);
            }
            rows[r] = null;
            return 1;
        }

        private int copy(int r, int i, int to, int j, int n) {
            if (!is(r, 6) || !is(to, 6)) {
                return BAD;
            }
            if (n < 0) {
                return find(5);
            }
            if (rows[r] == null || rows[to] == null) {
                return find(1);
            }
            if (i < 0 || j < 0 || (long) i + n > rows[r].length || (long) j + n > rows[to].length) {
                return find(2);
            }
            int[] taken = Arrays.copyOfRange(rows[r], i, i + n);
            for (int p = 0; p < n; p++) {
                rows[to][j + p] = taken[p];
            }
            return 1;
        }

        private int mean(int r) {
            if (!is(r, 6)) {
                return BAD;
            }
            if (rows[r] == null) {
                return find(1);
            }
            if (rows[r].length == 0) {
                return find(4);
            }
            BigInteger sum = BigInteger.ZERO;
            for (int v : rows[r]) {
                sum = sum.add(BigInteger.valueOf(v));
            }
            return tell(sum.divide(BigInteger.valueOf(rows[r].length)).intValueExact(), 1);
        }

        private int text(int t, int n) {
            if (!is(t, 4) || n > 60) {
                return BAD;
            }
            if (n < 0) {
                return find(5);
            }
            texts[t] = new byte[n];
            Arrays.fill(texts[t], (byte) 32);
            return n;
        }

        private int put(int t, int i, int v) {
            if (!is(t, 4)) {
                return BAD;
            }
            if (texts[t] == null) {
                return find(1);
            }
            if (!is(i, texts[t].length)) {
                return find(2);
            }
            int was = texts[t][i];
            texts[t][i] = (byte) v;
            return was + 1000;
        }

        private int fault(int t) {
            return !is(t, 4) ? BAD : texts[t] == null ? find(1) : faultOf(texts[t], new State());
        }

        /** Goes sign by sign with what may stand next; items as words of signs. */
        private int faultOf(byte[] text, State into) {
            int stage = 0;
            int[] item = new int[5];
            for (int p = 0; p < text.length; p++) {
                int sign = text[p];
                boolean between = stage == 0 || stage >= 5 && (stage - 5) % 4 == 0;
                if (between && sign == ' ') {
                    continue;
                }
                if (!mayStand(stage, sign, into)) {
                    return p;
                }
                int within = stage < 5 ? stage : (stage - 5) % 4;
                item[within] = stage != 0 && !between ? sign - '0' : sign;
                stage++;
                if (stage == 2) {
                    into.columns = item[1];
                } else if (stage == 3) {
                    into.lines = item[2];
                } else if (stage == 5) {
                    into.mountain = into.columns * item[4] + item[3];
                } else if (stage > 5 && (stage - 5) % 4 == 0) {
                    into.people.add(new int[] {"fvwgmh".indexOf(item[0]), into.columns * item[2] + item[1], item[3]});
                }
            }
            return stage >= 9 && (stage - 5) % 4 == 0 ? NONE : text.length;
        }

        private boolean mayStand(int stage, int sign, State into) {
            int figure = sign - '0';
            if (stage == 0) {
                return sign == 'l';
            }
            if (stage < 3) {
                return figure >= 3 && figure <= 5;
            }
            if (stage < 5) {
                return is(figure, stage == 3 ? into.columns : into.lines);
            }
            switch ((stage - 5) % 4) {
                case 0: return stage < 5 + 24 && sign > 0 && "fvwgmh".indexOf(sign) >= 0;
                case 1: return is(figure, into.columns);
                case 2: return is(figure, into.lines);
                default: return figure >= 1 && figure <= 9;
            }
        }

        private int land(int t) {
            if (!is(t, 4)) {
                return BAD;
            }
            if (texts[t] == null) {
                return find(1);
            }
            State read = new State();
            if (faultOf(texts[t], read) != NONE) {
                return STATE;
            }
            now = read;
            before = new ArrayList<>();
            Arrays.fill(keptNow, null);
            return people();
        }

        private int one(int i, int what) {
            return what < 3 ? now.people.get(i)[what] : what == 3 ? now.gain(i, now.mountain) : now.vote(i);
        }

        private int mark(int i, int kind) {
            if (!is(i, people()) || !is(kind - 1, 5)) {
                return BAD;
            }
            int own = one(i, 0);
            if (own != kind && !(own == 4 && kind == 2) && !(own == 5 && kind == 3)) {
                return find(3);
            }
            int house = one(i, 1);
            switch (kind) {
                case 1: return now.mountain / now.columns < house / now.columns ? 1 : 0;
                case 2: return now.gain(0, house, now.mountain);
                case 3: return (int) Arrays.stream(now.votes()).filter(v -> v == NONE).count() - (now.vote(i) == NONE ? 1 : 0);
                case 4: return Math.max(0, now.gain(4, house, now.mountain) - now.gain(2, house, now.mountain));
                default:
                    int many = 0;
                    for (int way = 1; way < 5; way++) {
                        many += now.step(house, way) == null ? 0 : 1;
                    }
                    return many;
            }
        }

        private int year() {
            before.add(now.copy());
            return now.pass();
        }

        private int push(int way) {
            if (!is(way - 1, 4)) {
                return BAD;
            }
            if (now == null || now.step(now.mountain, way) == null) {
                return STATE;
            }
            if (deeds() == 40) {
                return FULL;
            }
            before.add(now.copy());
            now.go(way);
            now.back = 0;
            return now.mountain;
        }

        private int house(int i, int cell) {
            if (!is(i, people()) || !is(cell, cells())) {
                return BAD;
            }
            int was = one(i, 1);
            if (was == cell) {
                return STATE;
            }
            if (deeds() == 40) {
                return FULL;
            }
            before.add(now.copy());
            now.people.get(i)[1] = cell;
            return was;
        }

        private int undo(int n) {
            if (n < 0 || n > deeds()) {
                return BAD;
            }
            int undone = deeds() - n;
            if (undone > 0) {
                now = before.get(n).copy();
                before = new ArrayList<>(before.subList(0, n));
            }
            return undone;
        }

        private int keep(int k) {
            if (!is(k, 3)) {
                return BAD;
            }
            if (now == null) {
                return STATE;
            }
            keptNow[k] = now.copy();
            keptBefore.set(k, new ArrayList<>(before));
            return deeds();
        }

        private int on(int k) {
            if (!is(k, 3)) {
                return BAD;
            }
            if (keptNow[k] == null) {
                return find(1);
            }
            now = keptNow[k].copy();
            before = new ArrayList<>();
            for (State state : keptBefore.get(k)) {
                before.add(state.copy());
            }
            return deeds();
        }

        private int votes(int way) {
            if (!is(way, 5)) {
                return BAD;
            }
            if (now == null) {
                return STATE;
            }
            int who = 0;
            for (int i = 0; i < people(); i++) {
                who += now.vote(i) == way ? 1 << i : 0;
            }
            return tell(who, now.heaps(now.votes())[way]);
        }

        private int buy(int way) {
            if (!is(way, 5)) {
                return BAD;
            }
            if (now == null) {
                return STATE;
            }
            int fewest = Integer.MAX_VALUE;
            int whose = -1;
            for (int set = (1 << people()) - 1; set >= 0 && now.ways().contains(way); set--) {
                int[] votes = now.votes();
                int cost = 0;
                for (int i = 0; i < people(); i++) {
                    if ((set & 1 << i) != 0) {
                        votes[i] = way;
                        cost += one(i, 2);
                    }
                }
                if (State.carried(now.heaps(votes)) == way && cost <= fewest) {
                    fewest = cost;
                    whose = set;
                }
            }
            return whose < 0 ? NONE : tell(whose, fewest);
        }

        private int then(int n) {
            if (!is(n, 41)) {
                return BAD;
            }
            if (now == null) {
                return STATE;
            }
            State later = now.copy();
            for (int y = 0; y < n; y++) {
                later.pass();
            }
            return tell(later.total(later.mountain), later.mountain);
        }

        private int when(int cell) {
            if (!is(cell, cells())) {
                return BAD;
            }
            State later = now.copy();
            for (int y = 0; y <= 60; y++) {
                if (later.mountain == cell) {
                    return y;
                }
                later.pass();
            }
            return NONE;
        }

        private int round() {
            if (now == null) {
                return STATE;
            }
            Map<String, Integer> seen = new HashMap<>();
            State later = now.copy();
            for (int y = 0;; y++) {
                Integer was = seen.put(later.mountain + "/" + later.back, y);
                if (was != null) {
                    return tell(y - was, y);
                }
                later.pass();
            }
        }

        private int course(int n, int r) {
            if (!is(n, 6) || !is(r, 6)) {
                return BAD;
            }
            if (now == null) {
                return STATE;
            }
            List<Integer> ways = new ArrayList<>();
            int most = now.course(n, ways);
            rows[r] = ways.stream().mapToInt(way -> way).toArray();
            return most;
        }

        private int pairs(int r, int firsts) {
            if (rows[r] == null) {
                return 1;
            }
            if (rows[r].length % 2 == 1) {
                return 5;
            }
            for (int p = 0; p < rows[r].length; p += 2) {
                if (!is(rows[r][p], firsts) || !is(rows[r][p + 1], 31)) {
                    return 3;
                }
            }
            return 0;
        }

        private int fits(int r, boolean next) {
            if (!is(r, 6)) {
                return BAD;
            }
            if (now == null) {
                return STATE;
            }
            if (pairs(r, people()) != 0) {
                return find(pairs(r, people()));
            }
            List<Integer> fitting = new ArrayList<>();
            for (int cell = 0; cell < cells(); cell++) {
                boolean fits = true;
                for (int p = 0; p < rows[r].length; p += 2) {
                    fits &= now.gain(rows[r][p], cell) == rows[r][p + 1];
                }
                if (fits) {
                    fitting.add(cell);
                }
            }
            if (!next) {
                return tell(fitting.size(), fitting.stream().mapToInt(cell -> 1 << cell).sum());
            }
            List<List<Integer>> gains = new ArrayList<>();
            for (int i = 0; i < people(); i++) {
                int one = i;
                gains.add(fitting.stream().map(cell -> now.gain(one, cell)).toList());
            }
            return fitting.isEmpty() ? NONE : best(gains);
        }

        private int kinds(int i, int r, boolean test) {
            if (!is(i, people()) || !is(r, 6)) {
                return BAD;
            }
            if (pairs(r, cells()) != 0) {
                return find(pairs(r, cells()));
            }
            List<Integer> fitting = new ArrayList<>();
            for (int kind = 0; kind < 6; kind++) {
                boolean fits = true;
                for (int p = 0; p < rows[r].length; p += 2) {
                    fits &= now.gain(kind, one(i, 1), rows[r][p]) == rows[r][p + 1];
                }
                if (fits) {
                    fitting.add(kind);
                }
            }
            if (!test) {
                return fitting.stream().mapToInt(kind -> 1 << kind).sum();
            }
            List<List<Integer>> gains = new ArrayList<>();
            for (int cell = 0; cell < cells(); cell++) {
                int there = cell;
                gains.add(fitting.stream().map(kind -> now.gain(kind, one(i, 1), there)).toList());
            }
            return fitting.isEmpty() ? NONE : best(gains);
        }

        private int best(List<List<Integer>> choices) {
            int best = -1;
            int least = 99;
            for (int c = 0; c < choices.size(); c++) {
                int greatest = 0;
                for (int gain : choices.get(c)) {
                    greatest = Math.max(greatest, (int) choices.get(c).stream().filter(g -> g == gain).count());
                }
                if (greatest < least) {
                    least = greatest;
                    best = c;
                }
            }
            return tell(least, best);
        }

        private int way(int from, int to) {
            if (!is(from, cells()) || !is(to, cells())) {
                return BAD;
            }
            int steps = now.steps(from, to, -1);
            if (steps <= 0) {
                return steps < 0 ? NONE : tell(0, 0);
            }
            for (int way = 1; way < 5; way++) {
                if (now.step(from, way) != null && now.steps(now.step(from, way), to, -1) == steps - 1) {
                    return tell(way, steps);
                }
            }
            return -99;
        }

        private int parts(int from, int to) {
            if (!is(from, cells()) || !is(to, cells()) || from == to) {
                return BAD;
            }
            int bits = 0;
            for (int cell = 0; cell < cells(); cell++) {
                if (cell != from && cell != to && cell != now.mountain && now.steps(from, to, cell) < 0) {
                    bits += 1 << cell;
                }
            }
            return bits;
        }

        private int chance(int way, int p) {
            if (!is(p, 13)) {
                return BAD;
            }
            if (now == null) {
                return STATE;
            }
            int[] votes = now.votes();
            BigInteger sum = spread(votes, 0, BigInteger.ONE, way, p);
            BigInteger whole = BigInteger.valueOf(12).pow((int) Arrays.stream(votes).filter(v -> v >= 0).count());
            BigInteger divisor = sum.gcd(whole);
            upper = sum.divide(divisor).longValueExact();
            lower = whole.divide(divisor).longValueExact();
            return 1;
        }

        private BigInteger spread(int[] votes, int i, BigInteger weight, int way, int p) {
            if (i == votes.length) {
                int winner = State.carried(now.heaps(votes));
                if (way < 0) {
                    return weight.multiply(BigInteger.valueOf(now.total(now.step(now.mountain, winner))));
                }
                return winner == way ? weight : BigInteger.ZERO;
            }
            if (votes[i] < 0) {
                return spread(votes, i + 1, weight, way, p);
            }
            int[] without = votes.clone();
            without[i] = NONE;
            return spread(votes, i + 1, weight.multiply(BigInteger.valueOf(12 - p)), way, p)
                .add(spread(without, i + 1, weight.multiply(BigInteger.valueOf(p)), way, p));
        }

        private int lots(int n, int seed) {
            if (!is(n - 1, 20) || seed < 1 || seed == Integer.MAX_VALUE) {
                return BAD;
            }
            if (now == null) {
                return STATE;
            }
            if (deeds() + n > 40) {
                return FULL;
            }
            BigInteger lot = BigInteger.valueOf(seed);
            for (int d = 0; d < n; d++) {
                lot = lot.multiply(BigInteger.valueOf(48271)).mod(BigInteger.valueOf(2147483647));
                if (lot.mod(BigInteger.valueOf(3)).signum() != 0) {
                    year();
                    continue;
                }
                int way = 1 + lot.shiftRight(3).and(BigInteger.valueOf(3)).intValue();
                before.add(now.copy());
                if (now.step(now.mountain, way) != null) {
                    now.go(way);
                }
                now.back = 0;
            }
            return now.mountain;
        }

        private int count(int what) {
            int widows = 0;
            int hearths = 0;
            for (int i = 0; i < people(); i++) {
                widows += one(i, 0) == 2 || one(i, 0) == 4 ? 1 : 0;
                hearths += one(i, 2);
            }
            int there = what == 8 ? notNull(rows) : what == 9 ? notNull(texts) : notNull(keptNow);
            int[] mountain = now == null ? new int[3] : new int[] {now.mountain, now.years, now.back};
            int[] all = {people(), cells(), mountain[0], deeds(), mountain[1], mountain[2], hearths, widows,
                there, there, there};
            return all[what];
        }

        private int notNull(Object[] places) {
            return (int) Arrays.stream(places).filter(place -> place != null).count();
        }

        long digest() {
            List<Long> values = new ArrayList<>();
            for (int what = 0; what < 11; what++) {
                values.add((long) count(what));
            }
            for (int i = 0; i < people(); i++) {
                for (int what = 0; what < 5; what++) {
                    values.add((long) one(i, what));
                }
            }
            for (int k = 0; k < 3; k++) {
                values.add(keptNow[k] == null ? -1L : keptBefore.get(k).size());
            }
            for (int[] row : rows) {
                values.add(row == null ? -1L : row.length);
                for (int p = 0; row != null && p < row.length; p++) {
                    values.add((long) row[p]);
                }
            }
            for (byte[] text : texts) {
                values.add(text == null ? -1L : text.length);
                for (int p = 0; text != null && p < text.length; p++) {
                    values.add((long) text[p]);
                }
            }
            long h = 17;
            for (long value : values) {
                h = 31 * h + value;
            }
            return h;
        }
    }
}
