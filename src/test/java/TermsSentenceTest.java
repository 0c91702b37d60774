import java.io.IOException;

/** Each sentence of the document's terms: the call at its boundary, and the one just inside. */
public final class TermsSentenceTest extends Sentences {
    private static final String BLANKS = " ".repeat(51);
    private static final String LETTERS = "fvwgmh";

    public static void main(String[] args) throws IOException {
        calls();
        refusalOrder();
        refusedChangesNothing();
        findings();
        lowestTerms();
        bits();
        rowsAndTexts();
        blanks();
        firstItem();
        people();
        faults();
        cells();
        far();
        kindsAndLetters();
        gains();
        ways();
        back();
        choices();
        abstainers();
        carrying();
        deeds();
        aside();
        pairs();
        roundIt();
        end(0, 0);
    }

    private static void calls() {
        says(0, "An object is used for at most 512 calls after it has been made");
        Hill x = Hill.on(LONE);
        for (int c = 11; c < 511; c++) {
            x.call("round");
        }
        due(x, 1, "year");
        says(0, "what later calls answer is free");
        VotedHill late = new VotedHill();
        late.text(0, 9);
        for (int c = 1; c < 512; c++) {
            late.row(0, 40);
        }
        // Free, but LANGUAGE.md wants that no call ever throws: it is enough to come through.
        for (int c = 0; c < 600; c++) {
            late.row(c % 9 - 1, c % 50 - 5);
            late.lots(20, 1 + c);
            late.digest();
        }
        check("calls come back behind the 512th", 1, 1);
    }

    private static void refusalOrder() {
        says(0, "Refused is, the first of these that fits, in this order: BAD -1 (a number that is none, or not as told), "
            + "FULL -2, STATE -4 (not now), SPENT -6 (more than told), FINDING -3 (finding() tells which), "
            + "unless a call says so otherwise");
        check("BAD", VotedHill.BAD, -1);
        check("FULL", VotedHill.FULL, -2);
        check("STATE", VotedHill.STATE, -4);
        check("SPENT", VotedHill.SPENT, -6);
        check("FINDING", VotedHill.FINDING, -3);
        Hill full = Hill.on(LONE);
        full.doUntil(40);
        refused(full, BAD, "push", 5);
        refused(full, FULL, "push", 4);
        refused(full, BAD, "house", 0, 9);
        refused(full, FULL, "house", 0, 8);
        refused(full, BAD, "lots", 21, 1);
        refused(full, FULL, "lots", 20, 1);
        Hill none = new Hill();
        refused(none, BAD, "votes", 5);
        refused(none, STATE, "votes", 4);
        refused(none, BAD, "lots", 0, 1);
        refused(none, STATE, "lots", 1, 1);
        refused(none, BAD, "row", 6, -1);
        finds(none, SIZE, "row", 5, -1);
        refused(none, BAD, "fits", 6);
        refused(none, STATE, "fits", 5);
        Hill x = Hill.on("l3301 w111");
        finds(x, NOTHING, "fits", 5);
        x.doUntil(40);
        // Otherwise: FULL last, STATE behind NOTHING.
        refused(x, STATE, "push", 4);
        refused(x, FULL, "push", 2);
        finds(x, NOTHING, "land", 1);
        x.call("text", 1, 0);
        refused(x, STATE, "land", 1);
        says(0, "NONE -9");
        check("NONE", VotedHill.NONE, -9);
        due(x, -9, "fault", 0);
        due(x, 0, "fault", 1);
    }

    /** 40 DEEDS, the mountain on cell 1, kept LANDS, ROWS of 3, 2 and no ints, a TEXT with a FAULT, told numbers. */
    private static Hill busy() {
        Hill x = Hill.on(LONE);
        x.fill(0, 7, 8, 9);
        x.fill(1, 0, 31);
        x.call("row", 3, 0);
        x.call("text", 1, 2);
        x.call("keep", 1);
        x.call("lots", 20, 7);
        x.call("keep", 2);
        x.call("push", 4);
        x.doUntil(38);
        x.call("house", 0, 2);
        x.call("house", 0, 5);
        x.call("mid", 5);
        x.call("one", 0, 1);
        return x;
    }

    /** What all deeds, kept LANDS and told numbers are like from now on. */
    private static long[] trail(Hill x) {
        long[] trail = new long[11];
        trail[0] = x.call("digest");
        trail[1] = x.call("asked");
        trail[2] = x.call("upper");
        trail[3] = x.call("lower");
        trail[4] = x.call("undo", 20);
        trail[5] = x.call("digest");
        x.call("undo", 0);
        trail[6] = x.call("digest");
        trail[7] = x.call("on", 2);
        trail[8] = x.call("digest");
        x.call("undo", 3);
        trail[9] = x.call("digest");
        x.call("on", 1);
        trail[10] = x.call("digest");
        return trail;
    }

    private static void leavesTrail(int want, String name, int... arguments) {
        long[] due = trail(busy());
        Hill x = busy();
        if (want > 0) {
            finds(x, want, name, arguments);
        } else {
            refused(x, want, name, arguments);
        }
        long[] got = trail(x);
        for (int t = 0; t < due.length; t++) {
            check("trail " + t + " behind " + told(name, arguments), got[t], due[t]);
        }
    }

    private static void refusedChangesNothing() {
        says(0, "What is refused changes nothing but finding(), findings()");
        Object[][] bad = {{"row", 6, 0}, {"row", 0, 41}, {"lay", 6, 0, 1}, {"at", -1, 0}, {"tear", 6},
            {"copy", 6, 0, 0, 0, 1}, {"copy", 0, 0, 6, 0, 1}, {"mean", 6}, {"text", 4, 0}, {"text", 0, 61},
            {"put", 4, 0, 1}, {"fault", 4}, {"land", 4}, {"one", 1, 0}, {"one", 0, 5}, {"mark", 1, 1}, {"mark", 0, 0},
            {"gain", 1, 0}, {"gain", 0, 9}, {"push", 0}, {"push", 5}, {"house", 1, 0}, {"house", 0, 9}, {"undo", -1},
            {"undo", 41}, {"keep", 3}, {"on", 3}, {"votes", 5}, {"buy", 5}, {"then", 41}, {"when", 9}, {"course", 6, 0},
            {"course", 0, 6}, {"fits", 6}, {"next", 6}, {"kinds", 1, 3}, {"kinds", 0, 6}, {"test", 1, 3}, {"test", 0, 6},
            {"way", 0, 9}, {"way", 9, 0}, {"parts", 0, 0}, {"parts", 0, 9}, {"duel", 7}, {"odds", 5, 0}, {"odds", 0, 13},
            {"mid", 13}, {"lots", 0, 1}, {"lots", 21, 1}, {"lots", 1, 0}, {"lots", 1, MOST}, {"count", 11}, {"findings", 0},
            {"findings", 6}};
        leaveTrail(BAD, bad);
        leaveTrail(FULL, new Object[][] {{"year"}, {"push", 2}, {"push", 3}, {"push", 4}, {"house", 0, 1},
            {"lots", 1, 1}, {"lots", 20, 1}});
        leaveTrail(STATE, new Object[][] {{"push", 1}, {"house", 0, 5}, {"land", 1}});
        leaveTrail(NOTHING, new Object[][] {{"lay", 2, 0, 1}, {"at", 2, 0}, {"tear", 2}, {"copy", 2, 0, 0, 0, 1},
            {"copy", 0, 0, 2, 0, 1}, {"mean", 2}, {"put", 2, 0, 1}, {"fault", 2}, {"land", 2}, {"on", 0}, {"fits", 2},
            {"next", 2}, {"kinds", 0, 2}, {"test", 0, 2}});
        leaveTrail(BEYOND, new Object[][] {{"lay", 0, 3, 1}, {"at", 0, -1}, {"copy", 0, 2, 1, 0, 2}, {"copy", 1, 0, 0, 2, 2},
            {"put", 0, 9, 1}});
        leaveTrail(UNLIKE, new Object[][] {{"mark", 0, 1}, {"fits", 1}, {"next", 1}, {"kinds", 0, 1}, {"test", 0, 1}});
        leaveTrail(NOUGHT, new Object[][] {{"mean", 3}});
        leaveTrail(SIZE, new Object[][] {{"row", 0, -1}, {"copy", 0, 0, 1, 0, -1}, {"text", 0, -1}, {"fits", 0},
            {"next", 0}, {"kinds", 0, 0}, {"test", 0, 0}});
        Hill none = new Hill();
        Object[][] withoutCells = {{"year"}, {"push", 1}, {"keep", 0}, {"votes", 0}, {"carries"}, {"buy", 0}, {"then", 0},
            {"round"}, {"course", 0, 0}, {"fits", 0}, {"next", 0}, {"duel", 0}, {"odds", 0, 0}, {"mid", 0}, {"lots", 1, 1}};
        for (Object[] call : withoutCells) {
            refused(none, STATE, (String) call[0], numbers(call));
        }
    }

    private static void leaveTrail(int want, Object[][] calls) {
        for (Object[] call : calls) {
            leavesTrail(want, (String) call[0], numbers(call));
        }
    }

    private static int[] numbers(Object[] call) {
        int[] numbers = new int[call.length - 1];
        for (int i = 0; i < numbers.length; i++) {
            numbers[i] = (Integer) call[i + 1];
        }
        return numbers;
    }

    private static void findings() {
        says(0, "FINDINGS: 1 NOTHING (a ROW, a TEXT, a kept LAND that is missing), 2 BEYOND (a place that there is not), "
            + "3 UNLIKE (one of another KIND; a number that is none), 4 NOUGHT (shared among none; nothing fits), "
            + "5 SIZE (fewer than none; not as many as due)");
        Hill x = Hill.on(LONE);
        finds(x, 1, "at", 0, 0);
        finds(x, 1, "put", 1, 0, 0);
        finds(x, 1, "on", 0);
        x.fill(0, 4, 9);
        due(x, 1, "at", 0, 1);
        finds(x, 2, "at", 0, 2);
        finds(x, 3, "mark", 0, 1);
        finds(x, 3, "fits", 0);
        x.fill(1);
        finds(x, 4, "mean", 1);
        // fits() and kinds() name no NOUGHT among what they refuse: where nothing fits, no bit is told.
        x.fill(0, 0, 30);
        tells(x, 0, 0, "fits", 0);
        finds(x, 5, "row", 1, -1);
        x.fill(1, 0, 1, 0);
        finds(x, 5, "fits", 1);
    }

    private static void lowestTerms() {
        says(0, "Chances, means are told by upper(), lower(), in lowest terms, the lower number above 0 (0 by 1)");
        Hill x = Hill.on("l3311 f001 f222");
        terms(x, 3, 4, "odds", 1, 3);
        terms(x, 3, 16, "odds", 2, 3);
        terms(x, 0, 1, "odds", 3, 3);
        terms(x, 1, 1, "odds", 1, 0);
        terms(x, 105, 16, "mid", 3);
        terms(x, 7, 1, "mid", 0);
        Hill goat = Hill.on("l3311 g009");
        terms(goat, 0, 1, "mid", 7);
        terms(goat, 1, 1, "odds", 0, 7);
        terms(goat, 0, 1, "odds", 1, 7);
        // 6 voters for the NORTH: 1 of 12 to the power of 6 that all abstain, the lower number's greatest.
        Hill six = Hill.on("l3311 w101 w101 w101 w101 w101 w101");
        terms(six, 1, 2985984, "odds", 0, 1);
        terms(six, 2985983, 2985984, "odds", 1, 1);
    }

    private static void bits() {
        says(0, "Sets (of PEOPLE, CELLS, KINDS) are told by bits");
        Hill x = Hill.on("l5522 w211 g001 g001 g001 g001 w211");
        tells(x, 2, 33, "votes", 1);
        tells(x, 0, 0, "votes", 2);
        x.call("row", 0, 0);
        tells(x, (1 << 25) - 1, 25, "fits", 0);
        Hill corner = Hill.on("l5522 w441");
        corner.fill(0, 0, 9);
        tells(corner, 1 << 24, 1, "fits", 0);
        corner.fill(0, 0, 1);
        tells(corner, 1, 1, "fits", 0);
        corner.call("row", 0, 0);
        due(corner, 63, "kinds", 0, 0);
        corner.fill(0, 23, 5);
        due(corner, 1 << 5, "kinds", 0, 0);
        corner.fill(0, 19, 1);
        due(corner, 1, "kinds", 0, 0);
    }

    private static void rowsAndTexts() {
        says(0, "ROWS 0 .. 5 are rows of 0 to 40 ints, TEXTS 0 .. 3 rows of 0 to 60 bytes, or missing (at first)");
        Hill x = new Hill();
        for (int r = 0; r <= 5; r++) {
            finds(x, NOTHING, "tear", r);
        }
        for (int t = 0; t <= 3; t++) {
            finds(x, NOTHING, "fault", t);
        }
        for (int r = 0; r <= 5; r++) {
            due(x, 0, "row", r, 0);
            due(x, 40, "row", r, 40);
        }
        for (int t = 0; t <= 3; t++) {
            due(x, 0, "text", t, 0);
            due(x, 60, "text", t, 60);
        }
        due(x, 6, "count", 8);
        due(x, 4, "count", 9);
        int[][] none = {{-1, 0}, {6, 0}, {0, 41}, {5, 41}};
        for (int[] row : none) {
            refused(x, BAD, "row", row);
        }
        int[][] noText = {{-1, 0}, {4, 0}, {0, 61}, {3, 61}};
        for (int[] text : noText) {
            refused(x, BAD, "text", text);
        }
        tells(x, 1, 0, "at", 5, 39);
        due(x, 1032, "put", 3, 59, 1);
    }

    private static void faultAt(String text, int want) {
        Hill x = new Hill();
        x.write(3, text);
        check("fault of '" + text + "'", x.call("fault", 3), want);
        check("land by '" + text + "' stands", x.call("land", 3) > 0 ? 1 : 0, want == NONE ? 1 : 0);
        check("cells by '" + text + "'", x.call("count", 1) > 0 ? 1 : 0, want == NONE ? 1 : 0);
    }

    private static void blanks() {
        says(0, "A LAND (without CELLS, PEOPLE at first) is a TEXT: blanks (32) ahead, between, behind as many as wanted, "
            + "none within items");
        Hill x = new Hill();
        due(x, 0, "count", 0);
        due(x, 0, "count", 1);
        refused(x, STATE, "year");
        faultAt(BLANKS + "l3311f111", NONE);
        faultAt("l3311" + BLANKS + "f111", NONE);
        faultAt("l3311f111" + BLANKS, NONE);
        faultAt("l3311f111v111 w111  g111", NONE);
        for (int p = 1; p <= 8; p++) {
            faultAt(LONE.substring(0, p) + " " + LONE.substring(p), p == 5 ? NONE : p);
        }
        for (int sign : new int[] {0, 9, 10, 31, 33, 160}) {
            faultAt((char) sign + LONE, 0);
            faultAt("l3311" + (char) sign + "f111", 5);
            faultAt(LONE + (char) sign, 9);
        }
    }

    private static void firstItem() {
        says(0, "The first item is l (108), how many COLUMNS, how many LINES (3 .. 5 each), the MOUNTAIN's column, "
            + "its line (each below as many), one figure each");
        for (String letter : new String[] {"k", "m", "L", "f", "1"}) {
            faultAt(letter + "3311f111", 0);
        }
        for (int n = 0; n <= 9; n++) {
            faultAt("l" + n + "311f111", n >= 3 && n <= 5 ? NONE : 1);
            faultAt("l3" + n + "11f111", n >= 3 && n <= 5 ? NONE : 2);
            faultAt("l35" + n + "1f111", n < 3 ? NONE : 3);
            faultAt("l53" + n + "1f111", n < 5 ? NONE : 3);
            faultAt("l451" + n + "f111", n < 5 ? NONE : 4);
            faultAt("l541" + n + "f111", n < 4 ? NONE : 4);
        }
        String[] signs = {"/", ":"};
        for (String sign : signs) {
            for (int p = 1; p <= 4; p++) {
                faultAt(LONE.substring(0, p) + sign + LONE.substring(p + 1), p);
            }
        }
        faultAt("l33110f111", 5);
        faultAt("l33l3311f111", 3);
        faultAt("l3311l3311f111", 5);
        Hill x = Hill.on("l3521f001");
        due(x, 15, "count", 1);
        due(x, 5, "count", 2);
        due(Hill.on("l5524f001"), 22, "count", 2);
        due(Hill.on("l3300f001"), 0, "count", 2);
    }

    private static void people() {
        says(0, "Then PEOPLE (1 to 6; 0, 1, .. as they come): a letter, the HOUSE's column, its line, HEARTHS (1 .. 9), "
            + "one figure each");
        faultAt("l3311", 5);
        faultAt("l3311f111", NONE);
        faultAt("l3311f111f111f111f111f111f111", NONE);
        faultAt("l3311f111f111f111f111f111f111f111", 29);
        for (int n = 0; n <= 9; n++) {
            faultAt("l3511f" + n + "11", n < 3 ? NONE : 6);
            faultAt("l5311f" + n + "11", n < 5 ? NONE : 6);
            faultAt("l5311f1" + n + "1", n < 3 ? NONE : 7);
            faultAt("l3511f1" + n + "1", n < 5 ? NONE : 7);
            faultAt("l3311f11" + n, n > 0 ? NONE : 8);
        }
        for (int p = 6; p <= 8; p++) {
            faultAt(LONE.substring(0, p) + "/" + LONE.substring(p + 1), p);
            faultAt(LONE.substring(0, p) + ":" + LONE.substring(p + 1), p);
        }
        faultAt("l3311f1111", 9);
        Hill x = Hill.on("l5311 h001 f429 w012");
        int[][] all = {{5, 0, 1}, {0, 14, 9}, {2, 5, 2}};
        for (int i = 0; i < 3; i++) {
            for (int what = 0; what < 3; what++) {
                tells(x, 1, all[i][what], "one", i, what);
            }
        }
        due(x, 3, "count", 0);
        due(Hill.on("l3311f111f111f111f111f111f111"), 6, "count", 0);
    }

    private static void faults() {
        says(0, "A FAULT is the first place at which it can't go on so (a letter, a figure that is none such, a seventh one "
            + "of PEOPLE: its place; the TEXT's size, if its end comes too early, or there are no PEOPLE, "
            + "or there are blanks alone)");
        String whole = "l5342 m429 h001";
        for (int size = 0; size <= whole.length(); size++) {
            faultAt(whole.substring(0, size), size == 10 || size == 11 || size == 15 ? NONE : size);
        }
        faultAt("l9999x999", 1);
        faultAt("x9999x999", 0);
        faultAt("l3311x999", 5);
        faultAt("l3311 f999", 7);
        faultAt("l3311 f199", 8);
        faultAt("l3311 f110", 9);
        String six = "l3311f111v111w111g111m111h111";
        faultAt(six, NONE);
        faultAt(six + "f", 29);
        faultAt(six + "f111", 29);
        faultAt(six + "   ?", 32);
        faultAt(six + "   ", NONE);
        faultAt("l3311   ", 8);
        faultAt("l3311" + BLANKS, 56);
        faultAt("", 0);
        faultAt(" ", 1);
        faultAt(BLANKS + "         ", 60);
        faultAt(BLANKS + "l3311f11 ", 59);
        faultAt(BLANKS + "l3311f110", 59);
        faultAt(BLANKS + " l3311f11", 60);
    }

    private static void cells() {
        says(0, "CELLS have numbers: COLUMNS times the line and the column (line 0 in the north, column 0 in the west)");
        int[][] corners = {{0, 0, 0}, {3, 0, 3}, {0, 4, 16}, {3, 4, 19}, {2, 3, 14}};
        for (int[] corner : corners) {
            Hill x = Hill.on("l45" + corner[0] + corner[1] + "f" + corner[0] + corner[1] + "1");
            due(x, corner[2], "count", 2);
            tells(x, 1, corner[2], "one", 0, 1);
        }
        Hill x = Hill.on("l4523f001");
        due(x, 20, "count", 1);
        due(x, 10, "push", 1);
        due(x, 9, "push", 4);
        due(x, 13, "push", 3);
        due(x, 14, "push", 2);
    }

    private static void far() {
        says(0, "FAR is how many columns and lines two CELLS lie apart, together");
        Hill x = Hill.on("l5500f001f401f221");
        due(x, 0, "gain", 0, 0);
        due(x, 4, "gain", 0, 4);
        due(x, 4, "gain", 0, 20);
        due(x, 8, "gain", 0, 24);
        due(x, 8, "gain", 1, 20);
        // The next number lies a line further south: no step away, but 5.
        due(x, 5, "gain", 1, 5);
        due(x, 1, "gain", 2, 13);
        due(x, 2, "gain", 2, 8);
        Hill wide = Hill.on("l5300f001");
        due(wide, 6, "gain", 0, 14);
        Hill high = Hill.on("l3500f001");
        due(high, 6, "gain", 0, 14);
        due(high, 4, "gain", 0, 12);
    }

    private static void kindsAndLetters() {
        says(0, "KINDS of PEOPLE and letters: 0 FARMER (f, 102), 1 VINE (v, 118; a FARMER), 2 WIDOW (w, 119; a FARMER), "
            + "3 GOAT (g, 103; a FARMER), 4 MINER (m, 109; a WIDOW), 5 HERMIT (h, 104; a GOAT)");
        int[] codes = {102, 118, 119, 103, 109, 104};
        Hill all = Hill.on("l5522f111v111w111g111m111h111");
        for (int kind = 0; kind < codes.length; kind++) {
            check("letter of kind " + kind, LETTERS.charAt(kind), codes[kind]);
            tells(all, 1, kind, "one", kind, 0);
        }
        for (int sign = 0; sign < 256; sign++) {
            Hill x = new Hill();
            x.write(0, LONE);
            x.call("put", 0, 5, sign);
            // A blank is no letter, but what comes behind it is looked at as one.
            int place = sign == 32 ? 6 : 5;
            check("fault by letter " + sign, x.call("fault", 0), LETTERS.indexOf(sign) >= 0 ? NONE : place);
        }
        // Who IS of which KIND: each of his own, a MINER of WIDOWS, a HERMIT of GOATS, too.
        int[] are = {0, 1 << 1, 1 << 2, 1 << 3, 1 << 4 | 1 << 2, 1 << 5 | 1 << 3};
        for (int i = 0; i < 6; i++) {
            for (int kind = 1; kind <= 5; kind++) {
                check(told("mark", i, kind) + " is told", all.call("mark", i, kind) == FINDING ? 0 : 1, are[i] >> kind & 1);
            }
        }
        due(all, 2, "count", 7);
    }

    private static void gains() {
        Hill x = Hill.on("l5522f221v221w221g221m221h221");
        Hill corner = Hill.on("l5500f001v441w001g001m001h001");
        says(0, "What one GAINS by a CELL on which the MOUNTAIN stands: a FARMER how FAR it is from the HOUSE");
        gainTable(x, 0, 4, 3, 2, 3, 4, 3, 2, 1, 2, 3, 2, 1, 0, 1, 2, 3, 2, 1, 2, 3, 4, 3, 2, 3, 4);
        due(corner, 0, "gain", 0, 0);
        due(corner, 8, "gain", 0, 24);
        says(0, "a VINE 3 more, if it lies in a line further north than the HOUSE");
        gainTable(x, 1, 7, 6, 5, 6, 7, 6, 5, 4, 5, 6, 2, 1, 0, 1, 2, 3, 2, 1, 2, 3, 4, 3, 2, 3, 4);
        due(corner, 11, "gain", 1, 0);
        due(corner, 8, "gain", 1, 15);
        due(corner, 4, "gain", 1, 20);
        says(0, "a WIDOW 9 less how FAR it is");
        gainTable(x, 2, 5, 6, 7, 6, 5, 6, 7, 8, 7, 6, 7, 8, 9, 8, 7, 6, 7, 8, 7, 6, 5, 6, 7, 6, 5);
        due(corner, 9, "gain", 2, 0);
        due(corner, 1, "gain", 2, 24);
        says(0, "a MINER (by a WIDOW) twice that, 0 if it is on the HOUSE");
        gainTable(x, 4, 10, 12, 14, 12, 10, 12, 14, 16, 14, 12, 14, 16, 0, 16, 14, 12, 14, 16, 14, 12, 10, 12, 14, 12, 10);
        due(corner, 0, "gain", 4, 0);
        due(corner, 16, "gain", 4, 1);
        due(corner, 2, "gain", 4, 24);
        says(0, "a GOAT nothing");
        gainTable(x, 3, 0, 0, 0, 0, 0, 0, 0, 0, 0, 0, 0, 0, 0, 0, 0, 0, 0, 0, 0, 0, 0, 0, 0, 0, 0);
        says(0, "a HERMIT 5, if it is 1 FAR from the HOUSE, else nothing");
        gainTable(x, 5, 0, 0, 0, 0, 0, 0, 0, 5, 0, 0, 0, 5, 0, 5, 0, 0, 0, 5, 0, 0, 0, 0, 0, 0, 0);
        due(corner, 0, "gain", 5, 0);
        due(corner, 5, "gain", 5, 5);
        due(corner, 0, "gain", 5, 6);
    }

    private static void gainTable(Hill x, int i, int... gains) {
        for (int cell = 0; cell < gains.length; cell++) {
            due(x, gains[cell], "gain", i, cell);
        }
    }

    private static void ways() {
        says(0, "WAYS: 0 it stays, 1 a CELL to the north, 2 to the east, 3 to the south, 4 to the west "
            + "(where the LAND has one)");
        int[][] pushed = {{1, 1}, {2, 5}, {3, 7}, {4, 3}};
        for (int[] push : pushed) {
            Hill x = Hill.on(LONE);
            due(x, push[1], "push", push[0]);
            refused(x, STATE, "push", push[0]);
        }
        Hill rest = Hill.on("l3311w111");
        due(rest, 0, "year");
        due(rest, 4, "count", 2);
        // Each line's end is the LAND's end: no way leads on to the next number.
        Hill east = Hill.on("l3320f201");
        refused(east, STATE, "push", 2);
        refused(east, STATE, "push", 1);
        tells(east, 1, 3, "one", 0, 4);
        due(east, NONE, "buy", 2);
        Hill west = Hill.on("l3302f021");
        refused(west, STATE, "push", 4);
        refused(west, STATE, "push", 3);
        tells(west, 1, 1, "one", 0, 4);
        due(west, NONE, "buy", 4);
        tells(Hill.on("l3300f001"), 1, 2, "one", 0, 4);
        tells(Hill.on("l3322f221"), 1, 1, "one", 0, 4);
    }

    private static void back() {
        says(0, "Back is the WAY against that which it went in the last YEAR (1 and 3, 2 and 4; none, if it stayed, "
            + "or was PUSHED since, or there was no YEAR)");
        String[] houses = {"w101", "w211", "w121", "w011"};
        int[] against = {3, 4, 1, 2};
        for (int way = 1; way <= 4; way++) {
            Hill x = Hill.on("l3311" + houses[way - 1]);
            due(x, 0, "count", 5);
            due(x, way, "year");
            due(x, against[way - 1], "count", 5);
            x.call("house", 0, 4);
            due(x, against[way - 1], "count", 5);
            x.call("undo", 1);
            due(x, 0, "year");
            due(x, 0, "count", 5);
            x.call("undo", 1);
            due(x, against[way - 1], "count", 5);
            x.call("push", against[way - 1]);
            due(x, 0, "count", 5);
        }
        Hill moved = Hill.on(LONE);
        moved.call("house", 0, 0);
        due(moved, 0, "count", 5);
        says(0, "that can not be voted for");
        Hill x = Hill.on("l3301w111");
        due(x, 2, "year");
        x.call("house", 0, 3);
        tells(x, 1, 0, "one", 0, 4);
        tells(x, 0, 0, "votes", 4);
        due(x, NONE, "buy", 4);
        due(x, 0, "year");
        tells(x, 1, 4, "one", 0, 4);
        due(x, 4, "year");
    }

    private static void choices() {
        says(0, "One votes for that WAY (that can be) by which one GAINS most (of like ones the first)");
        tells(Hill.on(LONE), 1, 1, "one", 0, 4);
        tells(Hill.on("l3310f101"), 1, 2, "one", 0, 4);
        tells(Hill.on("l3320f201"), 1, 3, "one", 0, 4);
        tells(Hill.on("l3311w021"), 1, 3, "one", 0, 4);
        tells(Hill.on("l3311w001"), 1, 1, "one", 0, 4);
        tells(Hill.on("l3311w201"), 1, 1, "one", 0, 4);
        tells(Hill.on("l3311w111"), 1, 0, "one", 0, 4);
        tells(Hill.on("l3300f221"), 1, 0, "one", 0, 4);
        tells(Hill.on("l3311m111"), 1, 1, "one", 0, 4);
        // On the HOUSE's line the north gives 3 more; just north of it, going on gives 1 more alone.
        tells(Hill.on("l3312v021"), 1, 1, "one", 0, 4);
        tells(Hill.on("l3311v021"), 1, 1, "one", 0, 4);
        tells(Hill.on("l3310v021"), 1, 2, "one", 0, 4);
        Hill x = Hill.on("l5412f001");
        due(x, 2, "year");
        tells(x, 1, 2, "one", 0, 4);
    }

    private static void abstainers() {
        says(0, "a GOAT (HERMIT, too) does not vote, if one GAINS as much by all of these");
        tells(Hill.on("l3311g111"), 1, NONE, "one", 0, 4);
        tells(Hill.on("l5500h441"), 1, NONE, "one", 0, 4);
        tells(Hill.on("l5533h441"), 1, 2, "one", 0, 4);
        tells(Hill.on("l5534h441"), 1, 0, "one", 0, 4);
        tells(Hill.on("l5544h441"), 1, 1, "one", 0, 4);
        tells(Hill.on("l5531h441"), 1, NONE, "one", 0, 4);
        tells(Hill.on("l5532h441"), 1, NONE, "one", 0, 4);
        // What is back is not among these: the hermit's one gain lies there.
        Hill x = Hill.on("l5311 w219 h011");
        due(x, 2, "year");
        tells(x, 1, NONE, "one", 1, 4);
        due(x, 0, "year");
        tells(x, 1, 4, "one", 1, 4);
    }

    private static void carrying() {
        says(0, "The WAY that CARRIES is that of most HEARTHS");
        tells(Hill.on("l3311 w109 w014 w014"), 1, 1, "carries");
        tells(Hill.on("l3311 w108 w014 w015"), 4, 1, "carries");
        tells(Hill.on("l3311 w109 w014 w214"), 1, 5, "carries");
        tells(Hill.on("l3311 g009 g009 w121"), 3, 1, "carries");
        says(0, "of like many (or nobody votes) 0");
        tells(Hill.on("l3311 w108 w014 w014"), 0, 0, "carries");
        tells(Hill.on("l3311 w101 w121"), 0, 0, "carries");
        tells(Hill.on("l3311 w103 w213 w123 w013"), 0, 0, "carries");
        tells(Hill.on("l3311 w013 w111 w213"), 0, 0, "carries");
        tells(Hill.on("l3311 w111 w101"), 0, 0, "carries");
        tells(Hill.on("l3311 g009"), 0, 0, "carries");
        Hill x = Hill.on("l3311 w101 w121");
        due(x, 0, "year");
        due(x, 4, "count", 2);
    }

    private static void deeds() {
        says(0, "What is done: a YEAR (it goes the WAY that CARRIES), it is PUSHED a WAY (nothing is back then), "
            + "a HOUSE is moved to another CELL");
        Hill x = Hill.on("l3301 w111");
        tells(x, 2, 1, "carries");
        due(x, 2, "year");
        due(x, 4, "count", 2);
        due(x, 4, "count", 5);
        due(x, 3, "push", 4);
        due(x, 0, "count", 5);
        due(x, 4, "house", 0, 0);
        tells(x, 1, 0, "one", 0, 1);
        due(x, 3, "count", 3);
        says(0, "These are DEEDS (40 at most)");
        Hill full = Hill.on(LONE);
        full.doUntil(37);
        due(full, 1, "push", 1);
        check("year() as the 39th deed goes", full.call("year") >= 0 ? 1 : 0, 1);
        due(full, 39, "count", 3);
        full.call("house", 0, 8);
        due(full, 40, "count", 3);
        refused(full, FULL, "year");
        refused(full, FULL, "push", full.call("count", 2) < 3 ? 3 : 1);
        refused(full, FULL, "house", 0, 7);
        refused(full, FULL, "lots", 1, 1);
        due(full, 1, "undo", 39);
        due(full, 0, "house", 0, 7);
    }

    private static void aside() {
        says(0, "Ahead of the calls `votes`, `carries`, `buy` the interface says: ---- 3 votes (aside, now)");
        Hill x = Hill.on("l3301 w111");
        x.call("year");
        long before = x.call("digest");
        tells(x, 1, 1, "votes", 0);
        tells(x, 0, 1, "carries");
        tells(x, 1, 1, "buy", 1);
        due(x, before, "digest");
        x.call("push", 4);
        tells(x, 1, 1, "votes", 2);
        tells(x, 2, 1, "carries");
        tells(x, 0, 0, "buy", 2);
        says(0, "Ahead of the calls `then`, `when`, `round`, `course` the interface says: "
            + "---- 4 years to come (aside, HOUSES as they are)");
        before = x.call("digest");
        tells(x, 4, 9, "then", 40);
        due(x, 1, "when", 4);
        tells(x, 3, 1, "round");
        due(x, before, "digest");
        due(x, 18, "course", 2, 0);
        for (int what = 2; what <= 5; what++) {
            due(x, what == 2 ? 3 : what == 3 ? 2 : what == 4 ? 1 : 0, "count", what);
        }
        x.call("house", 0, 3);
        tells(x, 3, 9, "then", 40);
        due(x, NONE, "when", 4);
        tells(x, 1, 1, "round");
        due(x, 18, "course", 2, 0);
        holds(x, 0, 0, 0);
    }

    private static void pairs() {
        says(0, "Ahead of the calls `fits`, `next`, `kinds`, `test` the interface says: ---- 5 where it stood "
            + "(a ROW of pairs: one of PEOPLE, what that one GAINED, 0 .. 30; all on one CELL)");
        Hill x = Hill.on("l3311 f001 f221");
        x.fill(0, 0, 0);
        tells(x, 1, 1, "fits", 0);
        x.fill(0, 1, 0);
        tells(x, 256, 1, "fits", 0);
        // Each could have been on a CELL of its own, but not both on one.
        x.fill(0, 0, 0, 1, 0);
        tells(x, 0, 0, "fits", 0);
        x.fill(0, 0, 30);
        tells(x, 0, 0, "fits", 0);
        int[][] unlike = {{0, 31}, {0, -1}, {2, 0}, {-1, 0}};
        for (int[] pair : unlike) {
            x.fill(0, pair);
            finds(x, UNLIKE, "fits", 0);
            finds(x, UNLIKE, "next", 0);
        }
    }

    private static void roundIt() {
        says(0, "Ahead of the calls `way`, `parts` the interface says: ---- 6 ways round it "
            + "(from CELL to CELL beside, north, east, south, west; not over the MOUNTAIN)");
        Hill x = Hill.on(LONE);
        tells(x, 2, 2, "way", 1, 5);
        tells(x, 4, 2, "way", 1, 7);
        tells(x, 1, 1, "way", 3, 0);
        tells(x, 1, 2, "way", 0, 1);
        tells(x, 1, 3, "way", 0, 3);
        tells(x, 1, 4, "way", 1, 0);
        // 2 and 3 lie at two lines' ends, not beside each other.
        tells(x, 3, 4, "way", 2, 3);
        x.call("push", 1);
        tells(x, 4, 3, "way", 0, 2);
        due(x, 8 + 32, "parts", 0, 2);
    }
}
