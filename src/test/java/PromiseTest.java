/** For each promise of the document: ordinary calls, its edges and wrong inputs, worked out by hand. */
public final class PromiseTest {
    private static final int BAD = -1, FULL = -2, FINDING = -3, STATE = -4, NONE = -9;
    private static final int NOTHING = 1, BEYOND = 2, UNLIKE = 3, NOUGHT = 4, SIZE = 5;
    private static final int LEAST = Integer.MIN_VALUE, MOST = Integer.MAX_VALUE;
    /** 5 columns, 4 lines, the mountain on cell 12; one of each kind. */
    private static final String VALLEY = "l5422 f005 v123 w434 g319 m132 h216";
    private static final String LONE = "l3311f111";
    private static final String TURNING = "l5440 w113 w417 f321 w112 f028";
    private static int wrong = 0;
    private static int promise = 0;

    public static void main(String[] args) {
        newObject();
        rows();
        copies();
        means();
        texts();
        faults();
        lands();
        people();
        marks();
        gains();
        years();
        pushes();
        houses();
        undone();
        keptLands();
        votes();
        bought();
        yearsToCome();
        courses();
        whereItStood();
        whichKind();
        waysRound();
        duels();
        chances();
        lots();
        asked();
        counts();
        findings();
        digests();
        System.out.println(wrong == 0 ? "all promises hold" : wrong + " answers are not as due");
        if (wrong != 0) {
            System.exit(1);
        }
    }

    private static void due(String call, long got, long want) {
        if (got != want) {
            wrong++;
            System.out.println("promise " + promise + ": " + call + " answered " + got + ", due is " + want);
        }
    }

    private static void finds(VotedHill x, String call, int got, int finding) {
        due(call, got, FINDING);
        due("finding() behind " + call, x.finding(), finding);
    }

    private static void tells(VotedHill x, String call, int got, int want, int told) {
        due(call, got, want);
        due("asked() behind " + call, x.asked(), told);
    }

    private static void terms(VotedHill x, String call, int got, long upper, long lower) {
        due(call, got, 1);
        due("upper() behind " + call, x.upper(), upper);
        due("lower() behind " + call, x.lower(), lower);
    }

    private static void write(VotedHill x, int t, String text) {
        x.text(t, text.length());
        for (int i = 0; i < text.length(); i++) {
            x.put(t, i, text.charAt(i));
        }
    }

    private static VotedHill on(String text) {
        VotedHill x = new VotedHill();
        write(x, 0, text);
        if (x.land(0) < 1) {
            due("a land by " + text, 0, 1);
        }
        return x;
    }

    private static void fill(VotedHill x, int r, int... values) {
        x.row(r, values.length);
        for (int i = 0; i < values.length; i++) {
            x.lay(r, i, values[i]);
        }
    }

    private static void holds(VotedHill x, int r, int... values) {
        for (int i = 0; i < values.length; i++) {
            x.at(r, i);
            due("place " + i + " of row " + r, x.asked(), values[i]);
        }
        finds(x, "at() behind the row's end", x.at(r, values.length), BEYOND);
    }

    private static void newObject() {
        promise = 1;
        VotedHill x = new VotedHill();
        for (int what = 0; what <= 10; what++) {
            due("count(" + what + ")", x.count(what), 0);
        }
        due("asked()", x.asked(), 0);
        due("upper()", x.upper(), 0);
        due("lower()", x.lower(), 1);
        due("finding()", x.finding(), 0);
        for (int f = 1; f <= 5; f++) {
            due("findings(" + f + ")", x.findings(f), 0);
        }
        for (int r = 0; r < 6; r++) {
            finds(x, "at(" + r + ", 0)", x.at(r, 0), NOTHING);
        }
        for (int t = 0; t < 4; t++) {
            finds(x, "fault(" + t + ")", x.fault(t), NOTHING);
        }
    }

    private static void rows() {
        promise = 2;
        VotedHill x = new VotedHill();
        due("row(5, 40)", x.row(5, 40), 40);
        due("row(0, 0)", x.row(0, 0), 0);
        due("row(0, 41)", x.row(0, 41), BAD);
        due("row(-1, 2)", x.row(-1, 2), BAD);
        due("row(6, -2)", x.row(6, -2), BAD);
        due("row(LEAST, 1)", x.row(LEAST, 1), BAD);
        due("row(0, MOST)", x.row(0, MOST), BAD);
        finds(x, "row(0, -1)", x.row(0, -1), SIZE);
        finds(x, "row(0, LEAST)", x.row(0, LEAST), SIZE);
        due("row(1, 3)", x.row(1, 3), 3);
        x.lay(1, 2, 8);
        due("row(1, 3) anew", x.row(1, 3), 3);
        holds(x, 1, 0, 0, 0);
        due("refused row() leaves it", x.row(1, 41), BAD);
        holds(x, 1, 0, 0, 0);
        promise = 3;
        tells(x, "lay(1, 1, 7)", x.lay(1, 1, 7), 1, 0);
        tells(x, "lay(1, 1, LEAST)", x.lay(1, 1, LEAST), 1, 7);
        tells(x, "lay(1, 1, 5)", x.lay(1, 1, 5), 1, LEAST);
        due("lay(6, 0, 0)", x.lay(6, 0, 0), BAD);
        due("lay(-1, 0, 0)", x.lay(-1, 0, 0), BAD);
        finds(x, "lay(2, 9, 0)", x.lay(2, 9, 0), NOTHING);
        finds(x, "lay(1, 3, 0)", x.lay(1, 3, 0), BEYOND);
        finds(x, "lay(1, -1, 0)", x.lay(1, -1, 0), BEYOND);
        due("asked() as it was", x.asked(), LEAST);
        promise = 4;
        tells(x, "at(1, 1)", x.at(1, 1), 1, 5);
        tells(x, "at(5, 39)", x.at(5, 39), 1, 0);
        due("at(6, 0)", x.at(6, 0), BAD);
        finds(x, "at(2, 0)", x.at(2, 0), NOTHING);
        finds(x, "at(1, 3)", x.at(1, 3), BEYOND);
        finds(x, "at(1, LEAST)", x.at(1, LEAST), BEYOND);
        promise = 5;
        due("tear(1)", x.tear(1), 1);
        finds(x, "tear(1) again", x.tear(1), NOTHING);
        finds(x, "at() of a torn row", x.at(1, 0), NOTHING);
        due("tear(-1)", x.tear(-1), BAD);
        due("tear(6)", x.tear(6), BAD);
        due("tear(0)", x.tear(0), 1);
    }

    private static void copies() {
        promise = 6;
        VotedHill x = new VotedHill();
        fill(x, 0, 1, 2, 3, 4, 5);
        fill(x, 1, 9, 9);
        due("copy(0, 1, 0, 2, 3)", x.copy(0, 1, 0, 2, 3), 1);
        holds(x, 0, 1, 2, 2, 3, 4);
        due("copy(0, 2, 0, 0, 3)", x.copy(0, 2, 0, 0, 3), 1);
        holds(x, 0, 2, 3, 4, 3, 4);
        due("copy(0, 1, 1, 0, 2)", x.copy(0, 1, 1, 0, 2), 1);
        holds(x, 1, 3, 4);
        due("copy of none at the end", x.copy(0, 5, 1, 2, 0), 1);
        due("copy(6, 0, 0, 0, -1)", x.copy(6, 0, 0, 0, -1), BAD);
        due("copy(0, 0, -1, 0, 1)", x.copy(0, 0, -1, 0, 1), BAD);
        finds(x, "copy(3, 0, 4, 0, -1)", x.copy(3, 0, 4, 0, -1), SIZE);
        finds(x, "copy(3, 9, 0, 0, 1)", x.copy(3, 9, 0, 0, 1), NOTHING);
        finds(x, "copy(0, 9, 3, 0, 1)", x.copy(0, 9, 3, 0, 1), NOTHING);
        finds(x, "copy(0, 3, 0, 0, 3)", x.copy(0, 3, 0, 0, 3), BEYOND);
        finds(x, "copy(0, 0, 1, 1, 2)", x.copy(0, 0, 1, 1, 2), BEYOND);
        finds(x, "copy(0, -1, 1, 0, 1)", x.copy(0, -1, 1, 0, 1), BEYOND);
        finds(x, "copy(0, 0, 1, -1, 1)", x.copy(0, 0, 1, -1, 1), BEYOND);
        finds(x, "copy(0, 1, 1, 1, MOST)", x.copy(0, 1, 1, 1, MOST), BEYOND);
        finds(x, "copy(0, MOST, 1, MOST, MOST)", x.copy(0, MOST, 1, MOST, MOST), BEYOND);
        finds(x, "copy(0, LEAST, 1, 0, MOST)", x.copy(0, LEAST, 1, 0, MOST), BEYOND);
        holds(x, 0, 2, 3, 4, 3, 4);
        holds(x, 1, 3, 4);
    }

    private static void means() {
        promise = 7;
        VotedHill x = new VotedHill();
        fill(x, 0, 1, 2, 5);
        tells(x, "mean of 8 by 3", x.mean(0), 1, 2);
        fill(x, 0, -1, -2, -5);
        tells(x, "mean of -8 by 3, cut", x.mean(0), 1, -2);
        fill(x, 0, MOST, MOST, MOST);
        tells(x, "mean of the greatest", x.mean(0), 1, MOST);
        fill(x, 0, LEAST, LEAST);
        tells(x, "mean of the least", x.mean(0), 1, LEAST);
        x.row(1, 0);
        finds(x, "mean of none", x.mean(1), NOUGHT);
        finds(x, "mean(2)", x.mean(2), NOTHING);
        due("mean(6)", x.mean(6), BAD);
        due("mean(-1)", x.mean(-1), BAD);
        due("asked() as it was", x.asked(), LEAST);
    }

    private static void texts() {
        promise = 8;
        VotedHill x = new VotedHill();
        due("text(3, 60)", x.text(3, 60), 60);
        due("text(0, 0)", x.text(0, 0), 0);
        due("text(0, 61)", x.text(0, 61), BAD);
        due("text(4, -1)", x.text(4, -1), BAD);
        due("text(-1, 1)", x.text(-1, 1), BAD);
        finds(x, "text(0, -1)", x.text(0, -1), SIZE);
        promise = 9;
        due("put(3, 59, 108)", x.put(3, 59, 108), 1032);
        due("put(3, 59, 200)", x.put(3, 59, 200), 1108);
        due("put(3, 59, 256)", x.put(3, 59, 256), 1000 + 200 - 256);
        due("put(3, 59, -1)", x.put(3, 59, -1), 1000);
        due("put(3, 59, 383)", x.put(3, 59, 383), 999);
        due("put(3, 59, 0)", x.put(3, 59, 0), 1127);
        due("put(4, 0, 0)", x.put(4, 0, 0), BAD);
        finds(x, "put(1, 0, 0)", x.put(1, 0, 0), NOTHING);
        finds(x, "put(3, 60, 0)", x.put(3, 60, 0), BEYOND);
        finds(x, "put(3, -1, 0)", x.put(3, -1, 0), BEYOND);
        finds(x, "put(0, 0, 0)", x.put(0, 0, 0), BEYOND);
        due("text(3, 60) anew", x.text(3, 60), 60);
        due("put() on a new blank", x.put(3, 59, 0), 1032);
        due("asked() is not told", x.asked(), 0);
    }

    private static void faultAt(String text, int want) {
        VotedHill x = new VotedHill();
        write(x, 2, text);
        due("fault of '" + text + "'", x.fault(2), want);
        due("land by '" + text + "' stands", x.land(2) > 0 ? 1 : 0, want == NONE ? 1 : 0);
    }

    private static void faults() {
        promise = 10;
        faultAt("", 0);
        faultAt("    ", 4);
        faultAt("  x", 2);
        faultAt("L3311f111", 0);
        faultAt("l", 1);
        faultAt("l2", 1);
        faultAt("l6311f111", 1);
        faultAt("l3211f111", 2);
        faultAt("l36", 2);
        faultAt("l353", 3);
        faultAt("l3523", 5);
        faultAt("l3525", 4);
        faultAt("l5353", 3);
        faultAt("l5343", 4);
        faultAt("l5342   ", 8);
        faultAt("l 342", 1);
        faultAt("l3311 f1 11", 8);
        faultAt("l3311f 111", 6);
        faultAt("l3311f311", 6);
        faultAt("l3311f131", 7);
        faultAt("l3311f110", 8);
        faultAt("l3311f11:", 8);
        faultAt("l3311f11", 8);
        faultAt("l3311f111l", 9);
        faultAt("l3311f1111", 9);
        faultAt("l3311a111", 5);
        faultAt("l3311f111 v111 w111 g111 m111 h111 f111", 35);
        faultAt("l3311f111 v111 w111 g111 m111 h111 ?", 35);
        faultAt("l3311f111v111w111g111m111h111", NONE);
        faultAt("   l5544    f449   h001  ", NONE);
        VotedHill x = new VotedHill();
        write(x, 0, LONE);
        x.put(0, 5, 102 - 256);
        due("a letter cut to its byte", x.fault(0), NONE);
        x.put(0, 1, -77);
        due("a byte below 0", x.fault(0), 1);
        due("fault(-1)", x.fault(-1), BAD);
        due("fault(4)", x.fault(4), BAD);
        finds(x, "fault(1)", x.fault(1), NOTHING);
    }

    private static void lands() {
        promise = 11;
        VotedHill x = on(VALLEY);
        due("land(0)", x.land(0), 6);
        due("cells", x.count(1), 20);
        due("the mountain's cell", x.count(2), 12);
        x.year();
        x.keep(0);
        x.keep(2);
        write(x, 1, "l33");
        due("land by a fault", x.land(1), STATE);
        due("cells as they were", x.count(1), 20);
        due("kept lands as they were", x.count(10), 2);
        due("deeds as they were", x.count(3), 1);
        due("land(4)", x.land(4), BAD);
        due("land(-1)", x.land(-1), BAD);
        finds(x, "land(2)", x.land(2), NOTHING);
        write(x, 1, "l3521 v029");
        due("land(1)", x.land(1), 1);
        due("cells", x.count(1), 15);
        due("the mountain's cell", x.count(2), 5);
        due("deeds", x.count(3), 0);
        due("years", x.count(4), 0);
        due("back", x.count(5), 0);
        due("kept lands", x.count(10), 0);
        finds(x, "on(0)", x.on(0), NOTHING);
        due("a text changed later", x.put(1, 0, 32), 1000 + 108);
        due("leaves the land", x.count(0), 1);
    }

    private static void people() {
        promise = 12;
        VotedHill x = on(VALLEY);
        int[][] all = {{0, 0, 5, 4, 2}, {1, 11, 3, 1, 1}, {2, 19, 4, 6, 2}, {3, 8, 9, 0, NONE},
            {4, 16, 2, 14, 3}, {5, 7, 6, 5, 0}};
        for (int i = 0; i < 6; i++) {
            for (int what = 0; what < 5; what++) {
                tells(x, "one(" + i + ", " + what + ")", x.one(i, what), 1, all[i][what]);
            }
        }
        due("one(6, 0)", x.one(6, 0), BAD);
        due("one(-1, 0)", x.one(-1, 0), BAD);
        due("one(0, 5)", x.one(0, 5), BAD);
        due("one(0, -1)", x.one(0, -1), BAD);
        due("one() without people", new VotedHill().one(0, 0), BAD);
        VotedHill far = on("l5500 h441 g111");
        tells(far, "a hermit who gains as much by all", far.one(0, 4), 1, NONE);
        far.house(0, 2);
        tells(far, "a hermit who gains by going east", far.one(0, 4), 1, 2);
    }

    private static void marks() {
        promise = 13;
        VotedHill x = on(VALLEY);
        due("a vine, level", x.mark(1, 1), 0);
        due("a widow", x.mark(2, 2), 3);
        due("a miner as a widow", x.mark(4, 2), 2);
        due("a goat: others who do not vote", x.mark(3, 3), 0);
        due("a hermit as a goat", x.mark(5, 3), 1);
        due("a miner", x.mark(4, 4), 7);
        due("a hermit", x.mark(5, 5), 4);
        VotedHill idle = on("l3311 g221 h111 g001");
        idle.push(1);
        due("a hermit who votes counts two goats", idle.mark(1, 3), 2);
        due("a goat counts the other one", idle.mark(0, 3), 1);
        due("another goat, too", idle.mark(2, 3), 1);
        x.push(1);
        due("a vine, further north", x.mark(1, 1), 1);
        x.house(4, 7);
        due("a miner with it on the house", x.mark(4, 4), 0);
        due("who is 0 far", x.mark(4, 2), 0);
        x.house(5, 0);
        due("a hermit in a corner", x.mark(5, 5), 2);
        x.house(5, 2);
        due("a hermit at the edge", x.mark(5, 5), 3);
        due("mark(0, 0)", x.mark(0, 0), BAD);
        due("mark(0, 6)", x.mark(0, 6), BAD);
        due("mark(6, 1)", x.mark(6, 1), BAD);
        due("mark(-1, 1)", x.mark(-1, 1), BAD);
        due("mark() without people", new VotedHill().mark(0, 1), BAD);
        int[][] unlike = {{0, 1}, {0, 3}, {1, 2}, {2, 4}, {3, 5}, {4, 3}, {5, 2}, {2, 1}};
        for (int[] pair : unlike) {
            finds(x, "mark(" + pair[0] + ", " + pair[1] + ")", x.mark(pair[0], pair[1]), UNLIKE);
        }
        due("asked() is not told", x.asked(), 0);
    }

    private static void gains() {
        promise = 14;
        VotedHill x = on(VALLEY);
        int[][] all = {{0, 0, 0}, {0, 19, 7}, {1, 11, 0}, {1, 6, 4}, {1, 16, 1}, {1, 4, 8}, {1, 14, 3}, {2, 19, 9},
            {2, 0, 2}, {3, 8, 0}, {3, 0, 0}, {4, 16, 0}, {4, 15, 16}, {4, 4, 6}, {5, 7, 0}, {5, 2, 5}, {5, 8, 5},
            {5, 3, 0}};
        for (int[] gain : all) {
            due("gain(" + gain[0] + ", " + gain[1] + ")", x.gain(gain[0], gain[1]), gain[2]);
        }
        due("gain(6, 0)", x.gain(6, 0), BAD);
        due("gain(-1, 0)", x.gain(-1, 0), BAD);
        due("gain(0, 20)", x.gain(0, 20), BAD);
        due("gain(0, -1)", x.gain(0, -1), BAD);
        due("gain() without cells", new VotedHill().gain(0, 0), BAD);
    }

    private static void years() {
        promise = 15;
        due("year() without cells", new VotedHill().year(), STATE);
        VotedHill x = on(TURNING);
        int[][] course = {{3, 9, 1}, {0, 9, 0}, {1, 4, 3}, {0, 4, 0}, {3, 9, 1}};
        for (int y = 0; y < course.length; y++) {
            due("year() " + y, x.year(), course[y][0]);
            due("its cell", x.count(2), course[y][1]);
            due("back", x.count(5), course[y][2]);
            due("years", x.count(4), y + 1);
        }
        for (int d = 5; d < 40; d++) {
            due("year() " + d, x.year() >= 0 ? 1 : 0, 1);
        }
        due("year() as the 41st deed", x.year(), FULL);
        due("years", x.count(4), 40);
        VotedHill back = on("l3301 w111");
        due("a year east", back.year(), 2);
        due("a house is moved behind it", back.house(0, 3), 4);
        due("the way back stays", back.count(5), 4);
        due("what is back is not voted for", back.year(), 0);
        due("back is free behind a year of staying", back.year(), 4);
    }

    private static void pushes() {
        promise = 16;
        VotedHill none = new VotedHill();
        due("push(1) without cells", none.push(1), STATE);
        due("push(0) without cells", none.push(0), BAD);
        VotedHill x = on("l4300 w111");
        due("push(0)", x.push(0), BAD);
        due("push(5)", x.push(5), BAD);
        due("push(-1)", x.push(-1), BAD);
        due("push north", x.push(1), STATE);
        due("push west", x.push(4), STATE);
        due("push east", x.push(2), 1);
        due("push east", x.push(2), 2);
        due("push east", x.push(2), 3);
        due("push east", x.push(2), STATE);
        due("push south", x.push(3), 7);
        due("push south", x.push(3), 11);
        due("push south", x.push(3), STATE);
        due("push north", x.push(1), 7);
        due("push west", x.push(4), 6);
        due("deeds", x.count(3), 7);
        due("years", x.count(4), 0);
        due("a year west", x.year(), 4);
        due("back is east", x.count(5), 2);
        due("push east, straight back", x.push(2), 6);
        due("nothing is back", x.count(5), 0);
        for (int d = 9; d < 40; d++) {
            x.push(d % 2 == 1 ? 2 : 4);
        }
        due("deeds", x.count(3), 40);
        due("it is in the east", x.count(2), 7);
        due("push(4) as the 41st deed", x.push(4), FULL);
        due("push(2) into nowhere: STATE is ahead", x.push(2), STATE);
        due("push(9): BAD is ahead", x.push(9), BAD);
    }

    private static void houses() {
        promise = 17;
        VotedHill x = on(LONE);
        due("house(0, 4)", x.house(0, 4), STATE);
        due("house(0, 8)", x.house(0, 8), 4);
        due("house(0, 0)", x.house(0, 0), 8);
        tells(x, "one(0, 1)", x.one(0, 1), 1, 0);
        due("deeds", x.count(3), 2);
        due("house(1, 0)", x.house(1, 0), BAD);
        due("house(-1, 0)", x.house(-1, 0), BAD);
        due("house(0, 9)", x.house(0, 9), BAD);
        due("house(0, -1)", x.house(0, -1), BAD);
        due("house() without cells", new VotedHill().house(0, 0), BAD);
        for (int d = 2; d < 40; d++) {
            x.house(0, d % 2 == 0 ? 5 : 3);
        }
        due("house(0, 3) as it is, with 40 deeds", x.house(0, 3), STATE);
        due("house(0, 5) as the 41st deed", x.house(0, 5), FULL);
        tells(x, "one(0, 1)", x.one(0, 1), 1, 3);
    }

    private static void undone() {
        promise = 18;
        VotedHill none = new VotedHill();
        due("undo(0) without cells", none.undo(0), 0);
        due("undo(1) without cells", none.undo(1), BAD);
        due("undo(-1) without cells", none.undo(-1), BAD);
        VotedHill x = on(TURNING);
        long fresh = x.digest();
        due("year()", x.year(), 3);
        long first = x.digest();
        due("house(0, 0)", x.house(0, 0), 6);
        due("house(0, 1)", x.house(0, 1), 0);
        due("push(4)", x.push(4), 8);
        due("undo(5)", x.undo(5), BAD);
        due("undo(-1)", x.undo(-1), BAD);
        due("undo(4)", x.undo(4), 0);
        due("undo(1)", x.undo(1), 3);
        due("all is as behind the first deed", x.digest(), first);
        due("back, too", x.count(5), 1);
        due("undo(0)", x.undo(0), 1);
        due("all is as at first", x.digest(), fresh);
        due("years", x.count(4), 0);
    }

    private static void keptLands() {
        promise = 19;
        VotedHill none = new VotedHill();
        due("keep(0) without cells", none.keep(0), STATE);
        due("keep(3) without cells", none.keep(3), BAD);
        VotedHill x = on(TURNING);
        due("keep(0)", x.keep(0), 0);
        x.year();
        x.house(1, 0);
        due("keep(2)", x.keep(2), 2);
        due("keep(3)", x.keep(3), BAD);
        due("keep(-1)", x.keep(-1), BAD);
        due("kept lands", x.count(10), 2);
        long kept = x.digest();
        promise = 20;
        x.push(4);
        x.house(2, 0);
        due("on(2)", x.on(2), 2);
        due("all is as it was kept", x.digest(), kept);
        due("back, too", x.count(5), 1);
        x.push(4);
        due("its deeds are undone", x.undo(1), 2);
        due("back is as behind the first", x.count(5), 1);
        due("undo(0)", x.undo(0), 1);
        due("the mountain's cell as at first", x.count(2), 4);
        due("years as at first", x.count(4), 0);
        tells(x, "one(1, 1)", x.one(1, 1), 1, 9);
        due("the kept one stays: on(2)", x.on(2), 2);
        due("all is as it was kept", x.digest(), kept);
        due("on(0)", x.on(0), 0);
        due("the mountain's cell", x.count(2), 4);
        due("on(3)", x.on(3), BAD);
        due("on(-1)", x.on(-1), BAD);
        finds(x, "on(1)", x.on(1), NOTHING);
        x.year();
        due("keep(2) anew", x.keep(2), 1);
        due("kept lands", x.count(10), 2);
        x.undo(0);
        due("on(2)", x.on(2), 1);
        due("the mountain's cell", x.count(2), 9);
    }

    private static void votes() {
        promise = 21;
        VotedHill none = new VotedHill();
        due("votes(0) without cells", none.votes(0), STATE);
        due("votes(5) without cells", none.votes(5), BAD);
        VotedHill x = on(VALLEY);
        tells(x, "votes(0)", x.votes(0), 6, 32);
        tells(x, "votes(1)", x.votes(1), 3, 2);
        tells(x, "votes(2)", x.votes(2), 9, 5);
        tells(x, "votes(3)", x.votes(3), 2, 16);
        tells(x, "votes(4)", x.votes(4), 0, 0);
        due("votes(-1)", x.votes(-1), BAD);
        due("votes(5)", x.votes(5), BAD);
        VotedHill turning = on(TURNING);
        turning.year();
        tells(turning, "votes(1), which is back", turning.votes(1), 0, 0);
        tells(turning, "votes(0)", turning.votes(0), 16, 22);
        tells(turning, "votes(4)", turning.votes(4), 5, 9);
        promise = 22;
        due("carries() without cells", none.carries(), STATE);
        tells(x, "carries()", x.carries(), 2, 3);
        tells(turning, "carries()", turning.carries(), 0, 11);
        VotedHill even = on("l3311 f002 f222");
        tells(even, "of like many", even.carries(), 0, 0);
        tells(even, "votes(2)", even.votes(2), 2, 1);
        tells(even, "votes(1)", even.votes(1), 2, 2);
        VotedHill goats = on("l3311 g002 g222");
        tells(goats, "nobody votes", goats.carries(), 0, 0);
        VotedHill most = on("l3311 f002 f222 f115 f114");
        tells(most, "more than two like ones", most.carries(), 1, 9);
    }

    private static void bought() {
        promise = 23;
        VotedHill none = new VotedHill();
        due("buy(0) without cells", none.buy(0), STATE);
        due("buy(5) without cells", none.buy(5), BAD);
        VotedHill x = on(VALLEY);
        tells(x, "buy(0): of like many 0", x.buy(0), 3, 2);
        tells(x, "buy(1)", x.buy(1), 4, 4);
        tells(x, "buy(2)", x.buy(2), 0, 0);
        tells(x, "buy(3)", x.buy(3), 5, 1);
        tells(x, "buy(4): the least number", x.buy(4), 7, 6);
        due("buy(-1)", x.buy(-1), BAD);
        due("buy(5)", x.buy(5), BAD);
        VotedHill goat = on("l3300 g117");
        tells(goat, "buy(2) of a goat", goat.buy(2), 7, 1);
        tells(goat, "buy(0): nobody votes", goat.buy(0), 0, 0);
        goat.buy(2);
        due("buy(1), where there is no cell", goat.buy(1), NONE);
        due("buy(4), where there is no cell", goat.buy(4), NONE);
        due("asked() as it was", goat.asked(), 1);
        VotedHill turning = on(TURNING);
        turning.year();
        due("buy(1), which is back", turning.buy(1), NONE);
    }

    private static void yearsToCome() {
        promise = 24;
        VotedHill none = new VotedHill();
        due("then(0) without cells", none.then(0), STATE);
        due("then(41) without cells", none.then(41), BAD);
        VotedHill valley = on(VALLEY);
        tells(valley, "then(0)", valley.then(0), 12, 105);
        VotedHill x = on(TURNING);
        long fresh = x.digest();
        int[] cells = {4, 9, 9, 4};
        for (int n = 0; n <= 40; n++) {
            due("then(" + n + ")", x.then(n), cells[n % 4]);
        }
        tells(x, "then(1)", x.then(1), 9, 3 * 6 + 7 * 9 + 2 + 2 * 6 + 8 * 5);
        due("then(41)", x.then(41), BAD);
        due("then(-1)", x.then(-1), BAD);
        due("aside", x.digest(), fresh);
        promise = 25;
        due("when(4)", x.when(4), 0);
        due("when(9)", x.when(9), 1);
        due("when(3)", x.when(3), NONE);
        due("when(20)", x.when(20), BAD);
        due("when(-1)", x.when(-1), BAD);
        due("when(0) without cells", none.when(0), BAD);
        promise = 26;
        due("round() without cells", none.round(), STATE);
        tells(x, "round()", x.round(), 4, 4);
        x.year();
        tells(x, "round() behind a year", x.round(), 4, 4);
        x.push(4);
        x.push(2);
        tells(x, "round() with nothing back", x.round(), 4, 4);
        VotedHill lone = on(LONE);
        tells(lone, "round() of one who comes to rest", lone.round(), 4, 1);
        due("when(2)", lone.when(2), 2);
        due("when(0)", lone.when(0), NONE);
    }

    private static void courses() {
        promise = 27;
        VotedHill none = new VotedHill();
        due("course(0, 0) without cells", none.course(0, 0), STATE);
        finds(none, "its row is missing", none.at(0, 0), NOTHING);
        due("course(6, 0) without cells", none.course(6, 0), BAD);
        VotedHill x = on(LONE);
        fill(x, 5, 7, 7, 7);
        due("course(0, 5)", x.course(0, 5), 0);
        holds(x, 5);
        due("course(2, 5)", x.course(2, 5), 3);
        holds(x, 5, 1, 2);
        due("course(5, 5)", x.course(5, 5), 9);
        holds(x, 5, 1, 2, 0, 0, 0);
        due("course(6, 5)", x.course(6, 5), BAD);
        due("course(-1, 5)", x.course(-1, 5), BAD);
        due("course(1, 6)", x.course(1, 6), BAD);
        due("course(1, -1)", x.course(1, -1), BAD);
        holds(x, 5, 1, 2, 0, 0, 0);
        VotedHill back = on("l3301 w112");
        back.year();
        back.house(0, 3);
        due("course(1, 0): not back", back.course(1, 0), 16);
        holds(back, 0, 0);
        due("course(2, 0): back behind staying", back.course(2, 0), 34);
        holds(back, 0, 0, 4);
        back.push(2);
        back.push(4);
        due("course(1, 0): nothing is back", back.course(1, 0), 18);
        holds(back, 0, 4);
        due("asked() is told by at() alone", back.asked(), 4);
    }

    private static void whereItStood() {
        promise = 28;
        VotedHill none = new VotedHill();
        due("fits(0) without cells", none.fits(0), STATE);
        due("fits(6) without cells", none.fits(6), BAD);
        due("next(0) without cells", none.next(0), STATE);
        due("next(-1) without cells", none.next(-1), BAD);
        VotedHill x = on("l3311 f002 w221 v111");
        fill(x, 0);
        tells(x, "fits by nothing", x.fits(0), 511, 9);
        fill(x, 0, 0, 2);
        tells(x, "fits by one", x.fits(0), 84, 3);
        fill(x, 0, 0, 2, 2, 5);
        tells(x, "fits by two", x.fits(0), 4, 1);
        fill(x, 0, 0, 2, 1, 8);
        tells(x, "fits none", x.fits(0), 0, 0);
        fill(x, 0, 0, 2, 0, 3);
        tells(x, "fits by two numbers of one", x.fits(0), 0, 0);
        wrongPairs(x, true);
        promise = 29;
        fill(x, 0, 0, 2);
        tells(x, "next by one", x.next(0), 2, 1);
        fill(x, 3, 0, 2, 1, 8);
        fill(x, 0, 2, 2);
        tells(x, "next of two, level", x.next(0), 0, 1);
        due("next of none", x.next(3), NONE);
        due("asked() as it was", x.asked(), 1);
        wrongPairs(x, false);
        VotedHill two = on("l3311 g001 f002 w221");
        fill(two, 0, 1, 2);
        tells(two, "next, all alike: the first", two.next(0), 0, 3);
        fill(two, 0);
        tells(two, "next by nothing", two.next(0), 1, 3);
    }

    private static void wrongPairs(VotedHill x, boolean fits) {
        int[][] unlike = {{3, 0}, {-1, 0}, {0, 31}, {0, -1}, {0, 2, 3, 0}, {0, 2, 0, MOST}};
        for (int[] pairs : unlike) {
            fill(x, 1, pairs);
            finds(x, "pairs with " + pairs[0] + ", " + pairs[1], fits ? x.fits(1) : x.next(1), UNLIKE);
        }
        fill(x, 1, 9, 99, 9);
        finds(x, "an odd row: SIZE is ahead", fits ? x.fits(1) : x.next(1), SIZE);
        finds(x, "a missing row", fits ? x.fits(4) : x.next(4), NOTHING);
        due("row 6", fits ? x.fits(6) : x.next(6), BAD);
        fill(x, 1, 0, 30);
        due("30 is a number", fits ? x.fits(1) : x.next(1), fits ? 0 : NONE);
    }

    private static void whichKind() {
        promise = 30;
        due("kinds() without people", new VotedHill().kinds(0, 0), BAD);
        due("test() without people", new VotedHill().test(0, 0), BAD);
        VotedHill x = on("l3311 f002 w221 v111");
        fill(x, 0);
        due("kinds by nothing", x.kinds(0, 0), 63);
        int[][] told = {{2, 3}, {0, 40}, {7, 4}, {14, 16}, {3, 0}};
        for (int[] pair : told) {
            fill(x, 0, 4, pair[0]);
            due("kinds by " + pair[0], x.kinds(0, 0), pair[1]);
        }
        fill(x, 0, 1, 4);
        due("kinds of a vine", x.kinds(2, 0), 2);
        fill(x, 0, 4, 0);
        due("kinds by the house", x.kinds(2, 0), 59);
        fill(x, 0, 4, 0, 1, 5);
        due("kinds by two", x.kinds(2, 0), 32);
        wrongKindPairs(x, false);
        promise = 31;
        fill(x, 0, 4, 0);
        tells(x, "test of five kinds", x.test(2, 0), 1, 1);
        fill(x, 3, 4, 3);
        fill(x, 0, 4, 2);
        tells(x, "test of two alike: the first", x.test(0, 0), 0, 2);
        due("test of none", x.test(0, 3), NONE);
        due("asked() as it was", x.asked(), 2);
        wrongKindPairs(x, true);
    }

    private static void wrongKindPairs(VotedHill x, boolean test) {
        int[][] unlike = {{9, 0}, {-1, 0}, {0, 31}, {0, -1}, {4, 2, 9, 0}};
        for (int[] pairs : unlike) {
            fill(x, 1, pairs);
            finds(x, "pairs with " + pairs[0] + ", " + pairs[1], test ? x.test(0, 1) : x.kinds(0, 1), UNLIKE);
        }
        fill(x, 1, 9, 99, 9);
        finds(x, "an odd row: SIZE is ahead", test ? x.test(0, 1) : x.kinds(0, 1), SIZE);
        finds(x, "a missing row", test ? x.test(0, 4) : x.kinds(0, 4), NOTHING);
        due("row 6", test ? x.test(0, 6) : x.kinds(0, 6), BAD);
        due("nobody", test ? x.test(3, 1) : x.kinds(3, 1), BAD);
        fill(x, 1, 8, 30);
        due("30 is a number", test ? x.test(0, 1) : x.kinds(0, 1), test ? NONE : 0);
    }

    private static void waysRound() {
        promise = 32;
        due("way() without cells", new VotedHill().way(0, 0), BAD);
        VotedHill x = on(LONE);
        tells(x, "way(1, 7)", x.way(1, 7), 4, 2);
        tells(x, "way(3, 5)", x.way(3, 5), 4, 1);
        tells(x, "way(0, 2)", x.way(0, 2), 2, 2);
        tells(x, "way(2, 0)", x.way(2, 0), 2, 4);
        tells(x, "way(0, 6)", x.way(0, 6), 2, 3);
        tells(x, "way(8, 8)", x.way(8, 8), 0, 0);
        x.way(0, 6);
        due("way(4, 0)", x.way(4, 0), NONE);
        due("way(0, 4)", x.way(0, 4), NONE);
        due("way(4, 4)", x.way(4, 4), NONE);
        due("asked() as it was", x.asked(), 3);
        due("way(0, 9)", x.way(0, 9), BAD);
        due("way(-1, 0)", x.way(-1, 0), BAD);
        promise = 33;
        due("parts() without cells", new VotedHill().parts(0, 1), BAD);
        due("parts(0, 8)", x.parts(0, 8), 0);
        due("parts(1, 4): there is no way", x.parts(1, 4), 511 - 2 - 16);
        due("parts(4, 8): there is no way", x.parts(4, 8), 511 - 16 - 256);
        x.push(1);
        due("parts(0, 8)", x.parts(0, 8), 8);
        due("parts(0, 2)", x.parts(0, 2), 8 + 32);
        due("parts(0, 3)", x.parts(0, 3), 0);
        due("parts(0, 0)", x.parts(0, 0), BAD);
        due("parts(0, 9)", x.parts(0, 9), BAD);
        due("parts(-1, 0)", x.parts(-1, 0), BAD);
        due("asked() as it was", x.asked(), 3);
    }

    private static void duels() {
        promise = 34;
        VotedHill none = new VotedHill();
        due("duel(0) without cells", none.duel(0), STATE);
        due("duel(7) without cells", none.duel(7), BAD);
        VotedHill x = on(LONE);
        int[] worth = {0, 1, 0, 1, 0, 1, 0};
        for (int n = 0; n <= 6; n++) {
            due("duel(" + n + ")", x.duel(n), worth[n]);
        }
        due("duel(7)", x.duel(7), BAD);
        due("duel(-1)", x.duel(-1), BAD);
        VotedHill widow = on("l3300 w222");
        due("duel(0)", widow.duel(0), 10);
        due("duel(1)", widow.duel(1), 12);
        due("duel(2)", widow.duel(2), 10);
        VotedHill back = on("l3301 w112");
        back.year();
        back.house(0, 3);
        due("duel(1): pushed back all the same", back.duel(1), 18);
    }

    private static void chances() {
        promise = 35;
        VotedHill none = new VotedHill();
        due("odds(0, 0) without cells", none.odds(0, 0), STATE);
        due("odds(5, 0) without cells", none.odds(5, 0), BAD);
        due("odds(0, 13) without cells", none.odds(0, 13), BAD);
        VotedHill x = on("l3311 f001 f222");
        terms(x, "odds(1, 3)", x.odds(1, 3), 3, 4);
        terms(x, "odds(2, 3)", x.odds(2, 3), 3, 16);
        terms(x, "odds(0, 3)", x.odds(0, 3), 1, 16);
        terms(x, "odds(3, 3)", x.odds(3, 3), 0, 1);
        terms(x, "odds(1, 0)", x.odds(1, 0), 1, 1);
        terms(x, "odds(0, 12)", x.odds(0, 12), 1, 1);
        terms(x, "odds(1, 12)", x.odds(1, 12), 0, 1);
        terms(x, "odds(2, 7)", x.odds(2, 7), 35, 144);
        due("odds(-1, 0)", x.odds(-1, 0), BAD);
        due("odds(0, -1)", x.odds(0, -1), BAD);
        due("odds(0, 13)", x.odds(0, 13), BAD);
        VotedHill even = on("l3311 f002 f222 g119");
        terms(even, "odds(0, 6) of like many; a goat has no part", even.odds(0, 6), 1, 2);
        promise = 36;
        due("mid(0) without cells", none.mid(0), STATE);
        due("mid(13) without cells", none.mid(13), BAD);
        terms(x, "mid(3)", x.mid(3), 105, 16);
        terms(x, "mid(0)", x.mid(0), 7, 1);
        terms(x, "mid(12)", x.mid(12), 6, 1);
        due("mid(-1)", x.mid(-1), BAD);
        due("mid(13)", x.mid(13), BAD);
        promise = 39;
        due("upper() as it was", x.upper(), 6);
        promise = 40;
        due("lower() as it was", x.lower(), 1);
        VotedHill goat = on("l3311 g111");
        terms(goat, "mid(5) of nothing gained", goat.mid(5), 0, 1);
    }

    private static void lots() {
        promise = 37;
        VotedHill none = new VotedHill();
        due("lots(1, 1) without cells", none.lots(1, 1), STATE);
        due("lots(0, 1) without cells", none.lots(0, 1), BAD);
        VotedHill x = on(LONE);
        due("lots(1, 1): a year", x.lots(1, 1), 1);
        due("years", x.count(4), 1);
        due("back", x.count(5), 3);
        x.undo(0);
        due("lots(2, 1): a push into nowhere", x.lots(2, 1), 1);
        due("deeds", x.count(3), 2);
        due("years", x.count(4), 1);
        due("nothing is back", x.count(5), 0);
        due("undo(1)", x.undo(1), 1);
        due("back", x.count(5), 3);
        x.undo(0);
        due("lots(4, 1): year, push, push, year", x.lots(4, 1), 2);
        due("years", x.count(4), 2);
        x.undo(0);
        due("lots(1, 48271): a push north", x.lots(1, 48271), 1);
        due("years", x.count(4), 0);
        x.undo(0);
        due("lots(1, 3): a push east", x.lots(1, 3), 5);
        x.undo(0);
        due("lots(1, 6): a push west", x.lots(1, 6), 3);
        x.undo(0);
        due("lots(1, 12): a push south", x.lots(1, 12), 7);
        x.undo(0);
        due("lots(1, 2147483646): a push south", x.lots(1, 2147483646), 7);
        x.year();
        due("lots(1, 0)", x.lots(1, 0), BAD);
        due("lots(1, MOST)", x.lots(1, MOST), BAD);
        due("lots(1, -1)", x.lots(1, -1), BAD);
        due("lots(0, 1)", x.lots(0, 1), BAD);
        due("lots(21, 1)", x.lots(21, 1), BAD);
        due("lots(20, 7)", x.lots(20, 7) >= 0 ? 1 : 0, 1);
        due("deeds", x.count(3), 22);
        due("lots(19, 7): one more than 40", x.lots(19, 7), FULL);
        due("deeds as they were", x.count(3), 22);
        due("lots(18, 7)", x.lots(18, 7) >= 0 ? 1 : 0, 1);
        due("deeds", x.count(3), 40);
        due("lots(1, 7)", x.lots(1, 7), FULL);
        due("lots(21, 7): BAD is ahead", x.lots(21, 7), BAD);
    }

    private static void asked() {
        promise = 38;
        VotedHill x = on(VALLEY);
        due("asked() at first", x.asked(), 0);
        x.carries();
        due("asked() behind carries()", x.asked(), 3);
        x.year();
        x.push(3);
        x.house(0, 1);
        x.undo(0);
        x.keep(0);
        x.on(0);
        x.when(0);
        x.course(2, 3);
        x.duel(2);
        x.odds(1, 1);
        x.mid(2);
        x.parts(0, 1);
        x.kinds(0, 3);
        x.mark(1, 1);
        x.gain(1, 1);
        x.fault(0);
        x.digest();
        x.count(3);
        x.votes(5);
        x.at(5, 0);
        due("asked() behind what does not tell", x.asked(), 3);
        x.land(0);
        due("asked() behind a land anew", x.asked(), 3);
    }

    private static void counts() {
        promise = 41;
        VotedHill x = on(VALLEY);
        x.year();
        x.push(1);
        x.year();
        x.row(3, 0);
        x.row(4, 2);
        x.text(3, 0);
        x.keep(1);
        int[] all = {6, 20, x.then(0), 3, 2, x.count(5), 29, 2, 2, 2, 1};
        for (int what = 0; what <= 10; what++) {
            due("count(" + what + ")", x.count(what), all[what]);
        }
        due("count(-1)", x.count(-1), BAD);
        due("count(11)", x.count(11), BAD);
        due("count(LEAST)", x.count(LEAST), BAD);
    }

    private static void findings() {
        promise = 42;
        VotedHill x = new VotedHill();
        x.row(9, 9);
        x.year();
        due("finding() behind BAD and STATE", x.finding(), 0);
        x.at(0, 0);
        due("finding()", x.finding(), NOTHING);
        x.row(0, -1);
        x.row(0, -2);
        due("finding()", x.finding(), SIZE);
        x.row(0, 0);
        due("finding() behind what is not refused", x.finding(), SIZE);
        x.mean(0);
        due("finding()", x.finding(), NOUGHT);
        promise = 43;
        int[] often = {1, 0, 0, 1, 2};
        for (int f = 1; f <= 5; f++) {
            due("findings(" + f + ")", x.findings(f), often[f - 1]);
        }
        due("findings(0)", x.findings(0), BAD);
        due("findings(6)", x.findings(6), BAD);
        due("findings(-1)", x.findings(-1), BAD);
    }

    private static long mixed(long h, int... values) {
        for (int value : values) {
            h = 31 * h + value;
        }
        return h;
    }

    private static void digests() {
        promise = 44;
        VotedHill x = new VotedHill();
        long start = mixed(17, 0, 0, 0, 0, 0, 0, 0, 0, 0, 0, 0);
        due("digest() at first", x.digest(), mixed(start, -1, -1, -1, -1, -1, -1, -1, -1, -1, -1, -1, -1, -1));
        x = on("l3300 g117 m012");
        fill(x, 4, 5, -6);
        x.text(1, 0);
        x.text(2, 1);
        x.put(2, 0, 255);
        x.push(3);
        x.keep(1);
        x.push(2);
        x.year();
        due("the miner has it east of the house, and it stays", x.count(2), 4);
        long h = mixed(17, 2, 9, 4, 3, 1, 0, 9, 1, 1, 3, 1);
        h = mixed(h, 3, 4, 7, 0, NONE, 4, 3, 2, 16, 0);
        h = mixed(h, -1, 1, -1);
        h = mixed(h, -1, -1, -1, -1, 2, 5, -6, -1);
        h = mixed(h, 15, 'l', '3', '3', '0', '0', ' ', 'g', '1', '1', '7', ' ', 'm', '0', '1', '2');
        h = mixed(h, 0, 1, -1, -1);
        due("digest()", x.digest(), h);
        due("digest() changes nothing", x.digest(), h);
        due("asked() neither", x.asked(), 0);
    }
}
