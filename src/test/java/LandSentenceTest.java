import java.io.IOException;

/** Each sentence of promises 1 to 20 (rows, texts, lands, deeds): the call at its boundary, and the one just inside. */
public final class LandSentenceTest extends Sentences {
    /** The MOUNTAIN goes to cells 9, 9, 4, 4 and so on, by WAYS 3, 0, 1, 0. */
    private static final String TURNING = "l5440 w113 w417 f321 w112 f028";

    public static void main(String[] args) throws IOException {
        newObject();
        row();
        lay();
        at();
        tear();
        copy();
        copyRefused();
        mean();
        text();
        put();
        fault();
        land();
        one();
        mark();
        markRefused();
        gain();
        year();
        push();
        house();
        undo();
        keep();
        on();
        end(1, 20);
    }

    /** The numbers just outside of 0 .. last are BAD as this argument of a call that is fine otherwise. */
    private static void badOutside(Hill x, int last, int argument, String name, int... arguments) {
        for (int number : new int[] {-1, last + 1, LEAST, MOST}) {
            int[] wrong = arguments.clone();
            wrong[argument] = number;
            refused(x, BAD, name, wrong);
        }
    }

    /** So many ints of one value. */
    private static int[] many(int n, int value) {
        int[] all = new int[n];
        java.util.Arrays.fill(all, value);
        return all;
    }

    private static void newObject() {
        says(1, "No ROWS, TEXTS, CELLS, PEOPLE");
        Hill x = new Hill();
        for (int what = 0; what <= 10; what++) {
            due(x, 0, "count", what);
        }
        for (int r = 0; r < 6; r++) {
            finds(x, NOTHING, "at", r, 0);
        }
        for (int t = 0; t < 4; t++) {
            finds(x, NOTHING, "put", t, 0, 0);
        }
        for (int k = 0; k < 3; k++) {
            finds(x, NOTHING, "on", k);
        }
        refused(x, STATE, "year");
        refused(x, BAD, "one", 0, 0);
        refused(x, BAD, "when", 0);
        Hill other = Hill.on(LONE);
        other.call("row", 0, 1);
        due(new Hill(), 0, "count", 1);
        due(other, 9, "count", 1);
    }

    private static void row() {
        says(2, "A ROW is there with n ints 0: n");
        Hill x = new Hill();
        due(x, 0, "row", 0, 0);
        holds(x, 0);
        due(x, 1, "count", 8);
        due(x, 1, "row", 0, 1);
        holds(x, 0, 0);
        due(x, 40, "row", 5, 40);
        holds(x, 5, many(40, 0));
        x.call("lay", 5, 0, 3);
        x.call("lay", 5, 39, 4);
        due(x, 2, "row", 5, 2);
        holds(x, 5, 0, 0);
        due(x, 40, "row", 5, 40);
        tells(x, 1, 0, "at", 5, 39);
        due(x, 2, "count", 8);
        says(2, "BAD: also n above 40");
        refused(x, BAD, "row", 5, 41);
        refused(x, BAD, "row", 4, MOST);
        due(x, 40, "row", 4, 40);
        badOutside(x, 5, 0, "row", 0, 0);
        badOutside(x, 5, 0, "row", 0, -1);
        due(x, 0, "row", 0, 0);
        due(x, 0, "row", 5, 0);
        says(2, "SIZE: below 0");
        x.fill(1, 7, 8);
        finds(x, SIZE, "row", 1, -1);
        finds(x, SIZE, "row", 1, LEAST);
        holds(x, 1, 7, 8);
        finds(x, SIZE, "row", 2, -1);
        due(x, 0, "row", 1, 0);
    }

    private static void lay() {
        says(3, "Place i of a ROW is v: what it was, told by asked(): 1");
        Hill x = new Hill();
        x.call("row", 0, 40);
        x.call("row", 5, 2);
        tells(x, 1, 0, "lay", 0, 0, LEAST);
        tells(x, 1, LEAST, "lay", 0, 0, MOST);
        tells(x, 1, MOST, "lay", 0, 0, -1);
        tells(x, 1, 0, "lay", 0, 39, 9);
        tells(x, 1, 9, "lay", 0, 39, 9);
        tells(x, 1, 0, "lay", 5, 1, 5);
        tells(x, 1, -1, "at", 0, 0);
        tells(x, 1, 0, "at", 0, 1);
        holds(x, 5, 0, 5);
        says(3, "BAD");
        badOutside(x, 5, 0, "lay", 0, 0, 1);
        badOutside(x, 5, 0, "lay", 0, 99, 1);
        due(x, 1, "lay", 5, 0, 1);
        due(x, 1, "lay", 0, 0, 1);
        says(3, "NOTHING");
        finds(x, NOTHING, "lay", 1, 0, 1);
        finds(x, NOTHING, "lay", 1, -1, 1);
        x.call("row", 1, 1);
        tells(x, 1, 0, "lay", 1, 0, 1);
        x.call("tear", 1);
        finds(x, NOTHING, "lay", 1, 0, 1);
        says(3, "BEYOND");
        Hill y = new Hill();
        y.fill(2, 5, 6);
        y.call("row", 3, 0);
        for (int place : new int[] {-1, 2, 40, LEAST, MOST}) {
            finds(y, BEYOND, "lay", 2, place, 1);
        }
        finds(y, BEYOND, "lay", 3, 0, 1);
        tells(y, 1, 5, "lay", 2, 0, 1);
        tells(y, 1, 6, "lay", 2, 1, 1);
    }

    private static void at() {
        says(4, "Place i of a ROW, told by asked(): 1");
        Hill x = new Hill();
        x.call("row", 0, 40);
        x.fill(5, LEAST, MOST);
        x.call("lay", 0, 39, -7);
        tells(x, 1, -7, "at", 0, 39);
        tells(x, 1, 0, "at", 0, 0);
        tells(x, 1, LEAST, "at", 5, 0);
        tells(x, 1, MOST, "at", 5, 1);
        tells(x, 1, MOST, "at", 5, 1);
        says(4, "BAD");
        badOutside(x, 5, 0, "at", 0, 0);
        badOutside(x, 5, 0, "at", 0, -1);
        due(x, 1, "at", 0, 0);
        due(x, 1, "at", 5, 0);
        says(4, "NOTHING");
        finds(x, NOTHING, "at", 1, 0);
        finds(x, NOTHING, "at", 1, 40);
        x.call("row", 1, 1);
        tells(x, 1, 0, "at", 1, 0);
        x.call("tear", 1);
        finds(x, NOTHING, "at", 1, 0);
        says(4, "BEYOND");
        x.call("row", 3, 0);
        for (int place : new int[] {-1, 2, LEAST, MOST}) {
            finds(x, BEYOND, "at", 5, place);
        }
        finds(x, BEYOND, "at", 0, 40);
        finds(x, BEYOND, "at", 3, 0);
        tells(x, 1, -7, "at", 0, 39);
    }

    private static void tear() {
        says(5, "A ROW is missing: 1");
        Hill x = new Hill();
        x.call("row", 0, 0);
        x.call("row", 5, 40);
        x.fill(3, 4);
        due(x, 3, "count", 8);
        due(x, 1, "tear", 0);
        due(x, 1, "tear", 5);
        due(x, 1, "count", 8);
        finds(x, NOTHING, "at", 5, 0);
        holds(x, 3, 4);
        x.call("row", 5, 1);
        holds(x, 5, 0);
        says(5, "BAD");
        badOutside(x, 5, 0, "tear", 0);
        due(x, 1, "tear", 5);
        says(5, "NOTHING");
        finds(x, NOTHING, "tear", 5);
        finds(x, NOTHING, "tear", 1);
        due(x, 1, "tear", 3);
        finds(x, NOTHING, "tear", 3);
    }

    private static void copy() {
        says(6, "n places of a ROW, from one on, come to those of another one (perhaps itself) from one on, "
            + "as if taken ahead: 1");
        Hill x = new Hill();
        x.fill(0, 1, 2, 3, 4, 5);
        x.fill(5, 8, 9);
        due(x, 1, "copy", 0, 0, 0, 1, 4);
        holds(x, 0, 1, 1, 2, 3, 4);
        due(x, 1, "copy", 0, 1, 0, 0, 4);
        holds(x, 0, 1, 2, 3, 4, 4);
        due(x, 1, "copy", 0, 0, 0, 0, 5);
        holds(x, 0, 1, 2, 3, 4, 4);
        due(x, 1, "copy", 5, 0, 0, 3, 2);
        holds(x, 0, 1, 2, 3, 8, 9);
        holds(x, 5, 8, 9);
        due(x, 1, "copy", 0, 0, 5, 1, 1);
        holds(x, 5, 8, 1);
        due(x, 1, "copy", 0, 0, 5, 0, 0);
        holds(x, 5, 8, 1);
        Hill whole = new Hill();
        whole.call("row", 1, 40);
        whole.call("row", 2, 40);
        whole.call("lay", 1, 0, 6);
        whole.call("lay", 1, 39, 7);
        due(whole, 1, "copy", 1, 0, 2, 0, 40);
        tells(whole, 1, 6, "at", 2, 0);
        tells(whole, 1, 7, "at", 2, 39);
        tells(whole, 1, 6, "at", 1, 0);
        whole.call("row", 3, 0);
        due(whole, 1, "copy", 3, 0, 3, 0, 0);
    }

    private static void copyRefused() {
        says(6, "BAD");
        Hill x = new Hill();
        x.fill(0, 1, 2, 3);
        x.fill(5, 4, 5);
        badOutside(x, 5, 0, "copy", 0, 0, 0, 0, 1);
        badOutside(x, 5, 2, "copy", 0, 0, 0, 0, 1);
        badOutside(x, 5, 2, "copy", 0, 0, 0, 0, -1);
        due(x, 1, "copy", 0, 0, 5, 0, 1);
        due(x, 1, "copy", 5, 0, 0, 0, 1);
        says(6, "SIZE: n below 0");
        finds(x, SIZE, "copy", 0, 0, 5, 0, -1);
        finds(x, SIZE, "copy", 0, 0, 5, 0, LEAST);
        finds(x, SIZE, "copy", 1, 9, 2, 9, -1);
        due(x, 1, "copy", 0, 0, 5, 0, 0);
        says(6, "NOTHING: either");
        Hill y = new Hill();
        y.fill(0, 1, 2, 3);
        y.fill(5, 4, 5);
        finds(y, NOTHING, "copy", 1, 0, 0, 0, 0);
        finds(y, NOTHING, "copy", 0, 0, 1, 0, 0);
        finds(y, NOTHING, "copy", 1, 0, 1, 0, 0);
        finds(y, NOTHING, "copy", 1, 9, 0, 9, 9);
        finds(y, NOTHING, "copy", 0, 9, 1, 9, 9);
        y.call("row", 1, 0);
        due(y, 1, "copy", 0, 0, 1, 0, 0);
        says(6, "BEYOND: not so many there");
        int[][] beyond = {{0, 2, 5, 0, 2}, {0, 3, 5, 0, 1}, {0, -1, 5, 0, 1}, {0, 0, 5, 1, 2}, {0, 0, 5, 2, 1},
            {0, 0, 5, -1, 1}, {5, 0, 0, 0, 3}, {0, 1, 5, 0, MOST}, {0, MOST, 5, 0, 1}, {0, 0, 5, MOST, 1},
            {0, LEAST, 5, 0, 0}, {0, 0, 5, LEAST, 0}, {0, MOST, 5, MOST, MOST}, {0, 4, 5, 0, 0}, {0, 0, 5, 3, 0}};
        for (int[] call : beyond) {
            finds(y, BEYOND, "copy", call);
        }
        int[][] inside = {{0, 1, 5, 0, 2}, {0, 2, 5, 1, 1}, {0, 3, 5, 2, 0}, {0, 0, 0, 0, 3}};
        for (int[] call : inside) {
            due(y, 1, "copy", call);
        }
    }

    private static void mean() {
        says(7, "The mean of a ROW's ints, cut, told by asked(): 1");
        int[][] means = {{7, 7}, {3, 3, 4}, {4, 4, 4}, {-3, -3, -4}, {0, 1, 0}, {0, -1, 0}, {0, 2, 0, 0}, {MOST, MOST, MOST, MOST},
            {LEAST, LEAST, LEAST, LEAST}, {0, MOST, LEAST}, {-1, LEAST, MOST - 1}};
        Hill x = new Hill();
        for (int[] mean : means) {
            x.fill(5, java.util.Arrays.copyOfRange(mean, 1, mean.length));
            tells(x, 1, mean[0], "mean", 5);
        }
        x.fill(0, many(40, MOST));
        tells(x, 1, MOST, "mean", 0);
        x.fill(0, many(40, LEAST));
        tells(x, 1, LEAST, "mean", 0);
        says(7, "BAD");
        badOutside(x, 5, 0, "mean", 0);
        due(x, 1, "mean", 0);
        due(x, 1, "mean", 5);
        says(7, "NOTHING");
        finds(x, NOTHING, "mean", 1);
        says(7, "NOUGHT");
        x.call("row", 1, 0);
        finds(x, NOUGHT, "mean", 1);
        x.call("row", 1, 1);
        tells(x, 1, 0, "mean", 1);
    }

    private static void text() {
        says(8, "A TEXT is there with n blanks: n");
        Hill x = new Hill();
        due(x, 0, "text", 0, 0);
        finds(x, BEYOND, "put", 0, 0, 1);
        due(x, 1, "count", 9);
        due(x, 1, "text", 0, 1);
        due(x, 1032, "put", 0, 0, 1);
        finds(x, BEYOND, "put", 0, 1, 1);
        due(x, 60, "text", 3, 60);
        for (int i = 0; i < 60; i++) {
            due(x, 1032, "put", 3, i, i);
        }
        due(x, 60, "text", 3, 60);
        due(x, 1032, "put", 3, 59, 1);
        due(x, 2, "text", 3, 2);
        due(x, 2, "fault", 3);
        due(x, 2, "count", 9);
        says(8, "BAD: also n above 60");
        refused(x, BAD, "text", 3, 61);
        refused(x, BAD, "text", 2, MOST);
        due(x, 60, "text", 2, 60);
        badOutside(x, 3, 0, "text", 0, 0);
        badOutside(x, 3, 0, "text", 0, -1);
        due(x, 0, "text", 0, 0);
        says(8, "SIZE: below 0");
        finds(x, SIZE, "text", 3, -1);
        finds(x, SIZE, "text", 3, LEAST);
        finds(x, SIZE, "text", 1, -1);
        due(x, 2, "fault", 3);
        due(x, 0, "text", 3, 0);
    }

    private static void put() {
        says(9, "Byte i of a TEXT is v, cut to a byte: what it was, and 1000 more");
        Hill x = new Hill();
        x.call("text", 3, 60);
        x.call("text", 0, 1);
        int[][] cut = {{0, 0}, {127, 127}, {128, -128}, {255, -1}, {256, 0}, {383, 127}, {384, -128}, {-1, -1},
            {-128, -128}, {-129, 127}, {-256, 0}, {LEAST, 0}, {MOST, -1}, {108, 108}};
        int was = 32;
        for (int[] put : cut) {
            due(x, 1000 + was, "put", 3, 59, put[0]);
            was = put[1];
        }
        due(x, 1032, "put", 3, 0, 5);
        due(x, 1005, "put", 3, 0, 5);
        due(x, 1032, "put", 0, 0, 5);
        due(x, 1032, "put", 3, 58, 5);
        due(x, 0, "asked");
        // A byte that was cut is a letter like another one.
        x.write(1, LONE);
        x.call("put", 1, 5, 102 + 512);
        due(x, NONE, "fault", 1);
        says(9, "BAD");
        badOutside(x, 3, 0, "put", 0, 0, 1);
        badOutside(x, 3, 0, "put", 0, 99, 1);
        due(x, 1005, "put", 0, 0, 1);
        due(x, 1005, "put", 3, 0, 1);
        says(9, "NOTHING");
        finds(x, NOTHING, "put", 2, 0, 1);
        finds(x, NOTHING, "put", 2, -1, 1);
        x.call("text", 2, 1);
        due(x, 1032, "put", 2, 0, 1);
        says(9, "BEYOND");
        for (int place : new int[] {-1, 60, LEAST, MOST}) {
            finds(x, BEYOND, "put", 3, place, 1);
        }
        finds(x, BEYOND, "put", 2, 1, 1);
        x.call("text", 2, 0);
        finds(x, BEYOND, "put", 2, 0, 1);
        due(x, 1108, "put", 3, 59, 1);
    }

    private static void fault() {
        says(10, "A FAULT of a TEXT");
        Hill x = new Hill();
        x.call("text", 0, 0);
        due(x, 0, "fault", 0);
        x.write(3, "x" + " ".repeat(59));
        due(x, 0, "fault", 3);
        x.write(3, " ".repeat(59) + "x");
        due(x, 59, "fault", 3);
        x.call("text", 3, 60);
        due(x, 60, "fault", 3);
        x.write(3, LONE + "?");
        due(x, 9, "fault", 3);
        due(x, 9, "fault", 3);
        says(10, "NONE: there is none");
        x.write(3, LONE);
        refused(x, NONE, "fault", 3);
        due(x, 0, "count", 1);
        says(10, "BAD");
        badOutside(x, 3, 0, "fault", 0);
        due(x, 0, "fault", 0);
        due(x, NONE, "fault", 3);
        says(10, "NOTHING");
        finds(x, NOTHING, "fault", 1);
        x.call("text", 1, 0);
        due(x, 0, "fault", 1);
    }

    private static void land() {
        says(11, "A LAND by a TEXT (anew: YEAR 0, nothing is back, no DEEDS; kept LANDS go): how many PEOPLE");
        Hill x = new Hill();
        x.write(0, TURNING);
        x.write(3, "l3311 w101");
        due(x, 5, "land", 0);
        x.call("year");
        for (int k = 0; k <= 2; k++) {
            x.call("keep", k);
        }
        due(x, 1, "count", 5);
        due(x, 5, "land", 0);
        int[] anew = {5, 20, 4, 0, 0, 0, 21, 3, 0, 2, 0};
        for (int what = 0; what <= 10; what++) {
            due(x, anew[what], "count", what);
        }
        for (int k = 0; k <= 2; k++) {
            finds(x, NOTHING, "on", k);
        }
        due(x, 0, "undo", 0);
        due(x, 1, "land", 3);
        due(x, 9, "count", 1);
        due(x, 4, "count", 2);
        x.call("put", 3, 0, 120);
        due(x, 1, "count", 0);
        due(x, 1, "year");
        due(Hill.on("l3311f111v111w111g111m111h111"), 6, "land", 0);
        says(11, "BAD");
        badOutside(x, 3, 0, "land", 0);
        due(x, 5, "land", 0);
        says(11, "NOTHING");
        finds(x, NOTHING, "land", 1);
        says(11, "STATE: a FAULT");
        Hill y = Hill.on(LONE);
        y.call("push", 1);
        y.call("keep", 2);
        y.write(2, LONE + "?");
        refused(y, STATE, "land", 2);
        y.write(2, "l3311");
        refused(y, STATE, "land", 2);
        y.call("text", 2, 0);
        refused(y, STATE, "land", 2);
        due(y, 1, "on", 2);
        y.write(2, LONE);
        due(y, 1, "land", 2);
        says(11, "(STATE behind NOTHING.)");
        Hill none = new Hill();
        finds(none, NOTHING, "land", 0);
        none.call("text", 0, 0);
        refused(none, STATE, "land", 0);
    }

    private static void one() {
        says(12, "Of one of PEOPLE: 0 the KIND, 1 the HOUSE's CELL, 2 HEARTHS, 3 what one GAINS now, "
            + "4 the WAY that one votes for (NONE: none), told by asked(): 1");
        Hill x = Hill.on(VALLEY);
        int[][] all = {{0, 0, 5, 4, 2}, {1, 11, 3, 1, 1}, {2, 19, 4, 6, 2}, {3, 8, 9, 0, NONE},
            {4, 16, 2, 14, 3}, {5, 7, 6, 5, 0}};
        for (int i = 0; i < 6; i++) {
            for (int what = 0; what < 5; what++) {
                tells(x, 1, all[i][what], "one", i, what);
            }
        }
        x.call("house", 5, 12);
        tells(x, 1, 12, "one", 5, 1);
        tells(x, 1, 0, "one", 5, 3);
        tells(x, 1, 1, "one", 5, 4);
        x.call("push", 3);
        tells(x, 1, 5, "one", 5, 3);
        tells(x, 1, 0, "one", 5, 4);
        tells(x, 1, 5, "one", 0, 3);
        says(12, "BAD");
        badOutside(x, 5, 0, "one", 0, 0);
        badOutside(x, 4, 1, "one", 0, 0);
        due(x, 1, "one", 5, 4);
        due(x, 1, "one", 0, 0);
        Hill lone = Hill.on(LONE);
        refused(lone, BAD, "one", 1, 0);
        due(lone, 1, "one", 0, 4);
        refused(new Hill(), BAD, "one", 0, 0);
    }

    private static void mark() {
        says(13, "What one who IS of a KIND tells: a VINE whether the MOUNTAIN is further north (1, 0), a WIDOW (MINER, too) "
            + "how FAR the MOUNTAIN is, a GOAT (HERMIT, too) how many others do not vote, a MINER how much more he GAINS "
            + "than a WIDOW there would (0 at least), a HERMIT how many CELLS there are by which he GAINS");
        Hill vine = Hill.on("l3312 v111");
        due(vine, 0, "mark", 0, 1);
        vine.call("push", 1);
        due(vine, 0, "mark", 0, 1);
        vine.call("push", 4);
        due(vine, 0, "mark", 0, 1);
        vine.call("push", 1);
        due(vine, 1, "mark", 0, 1);
        Hill x = Hill.on("l5500 w001 m001 h001");
        due(x, 0, "mark", 0, 2);
        due(x, 0, "mark", 1, 2);
        // On the HOUSE a MINER GAINS 9 less than a WIDOW would.
        due(x, 0, "mark", 1, 4);
        x.call("push", 2);
        due(x, 1, "mark", 0, 2);
        due(x, 1, "mark", 1, 2);
        due(x, 8, "mark", 1, 4);
        x.call("house", 0, 24);
        x.call("house", 1, 24);
        x.call("push", 4);
        due(x, 8, "mark", 0, 2);
        due(x, 8, "mark", 1, 2);
        due(x, 1, "mark", 1, 4);
        // One in each corner has 2 CELLS beside him; none lies behind the last line, or ahead of the first.
        for (int corner : new int[] {4, 20, 24, 0}) {
            x.call("house", 2, corner);
            due(x, 2, "mark", 2, 5);
        }
        x.call("house", 2, 1);
        due(x, 3, "mark", 2, 5);
        x.call("house", 2, 12);
        due(x, 4, "mark", 2, 5);
        Hill goats = Hill.on("l5500 g001 h441 f111 g111 h101");
        // The hermit far off does not vote, nor do the goats; the hermit beside does.
        due(goats, 2, "mark", 0, 3);
        due(goats, 2, "mark", 1, 3);
        due(goats, 2, "mark", 3, 3);
        due(goats, 3, "mark", 4, 3);
        due(Hill.on("l3311 g111"), 0, "mark", 0, 3);
        due(Hill.on("l3311 g111g111g111g111g111g111"), 5, "mark", 5, 3);
        due(goats, 0, "asked");
    }

    private static void markRefused() {
        says(13, "BAD: also KIND 0");
        Hill x = Hill.on("l3311 f111 v111 w111 g111 m111 h111");
        for (int i = 0; i < 6; i++) {
            refused(x, BAD, "mark", i, 0);
        }
        badOutside(x, 5, 1, "mark", 1, 1);
        badOutside(x, 5, 0, "mark", 1, 1);
        due(x, 0, "mark", 1, 1);
        due(x, 4, "mark", 5, 5);
        refused(new Hill(), BAD, "mark", 0, 1);
        says(13, "UNLIKE");
        int[] are = {0, 1 << 1, 1 << 2, 1 << 3, 1 << 4 | 1 << 2, 1 << 5 | 1 << 3};
        for (int i = 0; i < 6; i++) {
            Hill y = Hill.on("l3311 f111 v111 w111 g111 m111 h111");
            for (int kind = 1; kind <= 5; kind++) {
                if ((are[i] >> kind & 1) == 0) {
                    finds(y, UNLIKE, "mark", i, kind);
                } else {
                    check(told("mark", i, kind) + " is told", y.call("mark", i, kind) >= 0 ? 1 : 0, 1);
                }
            }
        }
    }

    private static void gain() {
        says(14, "What one GAINS, if the MOUNTAIN is on a CELL");
        Hill x = Hill.on(VALLEY);
        int[][] all = {{0, 0, 0}, {0, 19, 7}, {1, 11, 0}, {1, 6, 4}, {1, 16, 1}, {2, 19, 9}, {2, 0, 2}, {3, 8, 0},
            {4, 16, 0}, {4, 15, 16}, {4, 4, 6}, {5, 7, 0}, {5, 2, 5}, {5, 3, 0}};
        for (int[] gain : all) {
            due(x, gain[2], "gain", gain[0], gain[1]);
        }
        due(x, 12, "count", 2);
        due(x, 0, "asked");
        x.call("house", 0, 19);
        due(x, 7, "gain", 0, 0);
        due(x, 0, "gain", 0, 19);
        says(14, "BAD");
        badOutside(x, 5, 0, "gain", 0, 0);
        badOutside(x, 19, 1, "gain", 0, 0);
        due(x, 0, "gain", 5, 19);
        refused(Hill.on(LONE), BAD, "gain", 0, 9);
        refused(Hill.on(LONE), BAD, "gain", 1, 8);
        due(Hill.on(LONE), 2, "gain", 0, 8);
        refused(new Hill(), BAD, "gain", 0, 0);
    }

    private static void year() {
        says(15, "A YEAR: the WAY that it goes");
        Hill x = Hill.on(TURNING);
        int[][] course = {{3, 9, 1}, {0, 9, 0}, {1, 4, 3}, {0, 4, 0}, {3, 9, 1}};
        for (int y = 0; y < course.length; y++) {
            due(x, course[y][0], "year");
            due(x, course[y][1], "count", 2);
            due(x, course[y][2], "count", 5);
            due(x, y + 1, "count", 4);
            due(x, y + 1, "count", 3);
        }
        due(Hill.on("l3311 w211"), 2, "year");
        due(Hill.on("l3311 w011"), 4, "year");
        due(Hill.on("l3311 g111"), 0, "year");
        due(x, 0, "asked");
        says(15, "STATE: no CELLS");
        refused(new Hill(), STATE, "year");
        due(Hill.on(LONE), 1, "year");
        says(15, "FULL: 40 DEEDS");
        for (int d = 5; d < 40; d++) {
            due(x, course[d % 4][0], "year");
        }
        due(x, 40, "count", 4);
        refused(x, FULL, "year");
        due(x, 1, "undo", 39);
        due(x, course[3][0], "year");
        refused(x, FULL, "year");
        says(15, "(FULL last.)");
        // Without CELLS there are no DEEDS: STATE and FULL never meet here.
        refused(new Hill(), STATE, "year");
        refused(x, FULL, "year");
    }

    private static void push() {
        says(16, "It is PUSHED a WAY (1 .. 4): its CELL then");
        Hill x = Hill.on("l4311 w111");
        int[][] pushes = {{1, 1}, {4, 0}, {3, 4}, {3, 8}, {2, 9}, {2, 10}, {2, 11}, {1, 7}, {1, 3}};
        for (int[] push : pushes) {
            due(x, push[1], "push", push[0]);
            due(x, push[1], "count", 2);
        }
        due(x, 9, "count", 3);
        due(x, 0, "count", 4);
        due(x, 0, "asked");
        says(16, "BAD");
        for (int way : new int[] {0, -1, 5, LEAST, MOST}) {
            refused(x, BAD, "push", way);
        }
        refused(new Hill(), BAD, "push", 0);
        refused(new Hill(), BAD, "push", 5);
        due(Hill.on(LONE), 1, "push", 1);
        due(Hill.on(LONE), 3, "push", 4);
        says(16, "STATE: no CELLS, or none there");
        refused(new Hill(), STATE, "push", 1);
        refused(new Hill(), STATE, "push", 4);
        int[][] edges = {{0, 0, 1}, {0, 0, 4}, {3, 0, 1}, {3, 0, 2}, {0, 2, 3}, {0, 2, 4}, {3, 2, 2}, {3, 2, 3},
            {1, 0, 1}, {3, 1, 2}, {1, 2, 3}, {0, 1, 4}};
        for (int[] edge : edges) {
            Hill y = Hill.on("l43" + edge[0] + edge[1] + "f001");
            refused(y, STATE, "push", edge[2]);
            int inside = edge[2] < 3 ? edge[2] + 2 : edge[2] - 2;
            check("push away from the edge", y.call("push", inside) >= 0 ? 1 : 0, 1);
            check("push to the edge again", y.call("push", edge[2]), 4 * edge[1] + edge[0]);
        }
        says(16, "FULL");
        Hill full = Hill.on("l4310 w111");
        full.doUntil(39);
        due(full, 5, "push", 3);
        refused(full, FULL, "push", 1);
        due(full, 1, "undo", 39);
        due(full, 2, "push", 2);
        refused(full, FULL, "push", 2);
        says(16, "(FULL last.)");
        refused(full, STATE, "push", 1);
        refused(full, BAD, "push", 5);
        refused(full, FULL, "push", 3);
    }

    private static void house() {
        says(17, "A HOUSE is moved: its CELL before");
        Hill x = Hill.on("l4311 w111 g221");
        due(x, 5, "house", 0, 0);
        due(x, 0, "house", 0, 11);
        due(x, 11, "house", 0, 5);
        due(x, 5, "house", 0, 10);
        due(x, 10, "house", 1, 0);
        due(x, 5, "count", 3);
        tells(x, 1, 10, "one", 0, 1);
        tells(x, 1, 0, "one", 1, 1);
        tells(x, 1, 1, "one", 0, 2);
        due(x, 5, "count", 2);
        due(x, 0, "count", 4);
        says(17, "BAD");
        badOutside(x, 1, 0, "house", 0, 1);
        badOutside(x, 11, 1, "house", 0, 1);
        refused(new Hill(), BAD, "house", 0, 0);
        due(x, 0, "house", 1, 11);
        says(17, "STATE: it is there");
        refused(x, STATE, "house", 0, 10);
        refused(x, STATE, "house", 1, 11);
        due(x, 10, "house", 0, 11);
        refused(x, STATE, "house", 0, 11);
        says(17, "FULL");
        x.doUntil(39);
        x.call("one", 1, 1);
        due(x, 11, "house", 1, 3);
        refused(x, FULL, "house", 1, 2);
        due(x, 1, "undo", 39);
        due(x, 11, "house", 1, 2);
        refused(x, FULL, "house", 1, 3);
        says(17, "(FULL last.)");
        refused(x, STATE, "house", 1, 2);
        refused(x, BAD, "house", 2, 2);
        refused(x, BAD, "house", 1, 12);
        refused(x, FULL, "house", 1, 11);
    }

    private static void undo() {
        says(18, "DEEDS from number n on are undone: how many");
        Hill x = Hill.on(TURNING);
        long[] digests = new long[41];
        for (int d = 0; d < 40; d++) {
            digests[d] = x.call("digest");
            if (d % 3 == 0) {
                x.call("lots", 1, 1 + 7 * d);
            } else if (d % 3 == 1) {
                x.call("year");
            } else {
                x.call("house", d % 5, d < 20 ? d % 2 : 2 + d % 2);
            }
            due(x, d + 1, "count", 3);
        }
        due(x, 0, "undo", 40);
        for (int n = 39; n >= 20; n--) {
            due(x, 1, "undo", n);
            due(x, digests[n], "digest");
        }
        due(x, 0, "undo", 20);
        due(x, 13, "undo", 7);
        due(x, digests[7], "digest");
        due(x, 7, "undo", 0);
        due(x, digests[0], "digest");
        due(x, 0, "undo", 0);
        due(x, 0, "asked");
        Hill pushed = Hill.on("l3301 w111");
        pushed.call("year");
        pushed.call("push", 1);
        due(pushed, 0, "count", 5);
        due(pushed, 1, "undo", 1);
        due(pushed, 4, "count", 5);
        due(pushed, 4, "count", 2);
        due(pushed, 1, "count", 4);
        due(pushed, 1, "undo", 0);
        due(pushed, 0, "count", 5);
        due(pushed, 3, "count", 2);
        due(pushed, 0, "count", 4);
        says(18, "BAD");
        refused(x, BAD, "undo", 1);
        badOutside(x, 0, 0, "undo", 0);
        x.doUntil(40);
        badOutside(x, 40, 0, "undo", 0);
        due(x, 0, "undo", 40);
        due(x, 1, "undo", 39);
        refused(x, BAD, "undo", 40);
        due(x, 39, "undo", 0);
        Hill none = new Hill();
        due(none, 0, "undo", 0);
        refused(none, BAD, "undo", 1);
        refused(none, BAD, "undo", -1);
    }

    private static void keep() {
        says(19, "The LAND (as it is, DEEDS) is kept in a place (0 .. 2): how many DEEDS");
        Hill x = Hill.on(TURNING);
        due(x, 0, "keep", 0);
        due(x, 1, "count", 10);
        x.call("year");
        due(x, 1, "keep", 2);
        due(x, 1, "keep", 2);
        due(x, 2, "count", 10);
        due(x, 0, "asked");
        x.doUntil(40);
        due(x, 40, "keep", 1);
        due(x, 3, "count", 10);
        due(x, 40, "count", 3);
        refused(x, FULL, "year");
        due(x, 0, "on", 0);
        due(x, 1, "on", 2);
        x.call("push", 4);
        due(x, 2, "keep", 0);
        due(x, 3, "count", 10);
        x.call("undo", 0);
        due(x, 2, "on", 0);
        due(x, 8, "count", 2);
        says(19, "BAD");
        badOutside(x, 2, 0, "keep", 0);
        refused(new Hill(), BAD, "keep", 3);
        refused(new Hill(), BAD, "keep", -1);
        due(x, 2, "keep", 2);
        due(x, 2, "keep", 0);
        says(19, "STATE: no CELLS");
        Hill none = new Hill();
        for (int k = 0; k <= 2; k++) {
            refused(none, STATE, "keep", k);
        }
        none.write(0, LONE);
        none.call("land", 0);
        due(none, 0, "keep", 2);
    }

    /** Other DEEDS are done in the place of the kept ones before: each number of these comes back all the same. */
    private static void onBehindOthers() {
        Hill x = Hill.on("l3301 w111 f009");
        x.call("push", 1);
        x.call("house", 0, 1);
        x.call("push", 2);
        x.call("push", 3);
        x.call("keep", 0);
        x.call("undo", 0);
        x.call("house", 1, 8);
        x.call("year");
        x.call("house", 0, 7);
        x.call("year");
        x.call("house", 0, 2);
        x.call("keep", 1);
        long[] others = new long[6];
        for (int n = 5; n >= 0; n--) {
            x.call("undo", n);
            others[n] = x.call("digest");
        }
        x.call("on", 0);
        int[] cells = {3, 0, 0, 1, 4};
        for (int n = 4; n >= 0; n--) {
            x.call("undo", n);
            due(x, cells[n], "count", 2);
            tells(x, 1, n > 1 ? 1 : 4, "one", 0, 1);
            tells(x, 1, 0, "one", 1, 1);
            due(x, 0, "count", 4);
            due(x, 0, "count", 5);
        }
        x.call("on", 1);
        for (int n = 5; n >= 0; n--) {
            x.call("undo", n);
            due(x, others[n], "digest");
        }
    }

    private static void on() {
        says(20, "The LAND is as it was kept: how many DEEDS");
        Hill x = Hill.on(TURNING);
        x.call("house", 1, 0);
        long moved = x.call("digest");
        x.call("undo", 0);
        x.call("year");
        x.call("house", 1, 0);
        due(x, 2, "keep", 0);
        due(x, 2, "keep", 1);
        due(x, 2, "keep", 2);
        long kept = x.call("digest");
        x.call("push", 1);
        x.call("house", 1, 1);
        x.call("house", 0, 0);
        for (int k = 0; k <= 2; k++) {
            due(x, 2, "on", k);
            due(x, kept, "digest");
            // Its DEEDS came with it, and what is done from here on leaves the kept one as it is.
            due(x, 1, "undo", 1);
            tells(x, 1, 9, "one", 1, 1);
            due(x, 1, "count", 5);
            due(x, 1, "undo", 0);
            due(x, 4, "count", 2);
            due(x, 0, "count", 4);
            due(x, 0, "count", 5);
            x.call("push", 4);
        }
        check("a house moved alone is another land", moved == kept ? 1 : 0, 0);
        onBehindOthers();
        Hill full = Hill.on(LONE);
        full.doUntil(40);
        full.call("keep", 1);
        full.call("undo", 0);
        due(full, 40, "on", 1);
        refused(full, FULL, "year");
        due(full, 40, "undo", 0);
        tells(full, 1, 4, "one", 0, 1);
        says(20, "BAD");
        badOutside(x, 2, 0, "on", 0);
        refused(new Hill(), BAD, "on", 3);
        due(x, 2, "on", 2);
        due(x, 2, "on", 0);
        says(20, "NOTHING");
        finds(full, NOTHING, "on", 0);
        finds(full, NOTHING, "on", 2);
        due(full, 40, "on", 1);
        full.call("land", 0);
        finds(full, NOTHING, "on", 1);
        finds(new Hill(), NOTHING, "on", 0);
    }
}
