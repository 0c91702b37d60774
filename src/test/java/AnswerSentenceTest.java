import java.io.IOException;

/** Each sentence of promises 21 to 44 (votes to what is told): the call at its boundary, and the one just inside. */
public final class AnswerSentenceTest extends Sentences {
    /** The MOUNTAIN goes to cells 9, 9, 4, 4 and so on, by WAYS 3, 0, 1, 0. */
    private static final String TURNING = "l5440 w113 w417 f321 w112 f028";
    /** A FARMER in the north-west, a WIDOW in the south-east, a VINE in the middle. */
    private static final String THREE = "l3311 f002 w221 v111";

    public static void main(String[] args) throws IOException {
        votes();
        carries();
        buy();
        buyRefused();
        then();
        when();
        round();
        course();
        fits();
        next();
        kinds();
        test();
        way();
        parts();
        duel();
        odds();
        mid();
        lots();
        lotsRefused();
        asked();
        upperAndLower();
        count();
        findings();
        digest();
        end(21, 44);
    }

    private static void badOutside(Hill x, int first, int last, int argument, String name, int... arguments) {
        for (int number : new int[] {first - 1, last + 1, LEAST, MOST}) {
            int[] wrong = arguments.clone();
            wrong[argument] = number;
            refused(x, BAD, name, wrong);
        }
    }

    private static void votes() {
        Hill x = Hill.on(VALLEY);
        Hill all = Hill.on("l3311 w109w109w109w109w109w109");
        Hill corner = Hill.on("l3300 f221 w003");
        says(21, "HEARTHS for a WAY (0 .. 4)");
        int[] hearths = {6, 3, 9, 2, 0};
        for (int way = 0; way <= 4; way++) {
            due(x, hearths[way], "votes", way);
        }
        due(all, 54, "votes", 1);
        due(all, 0, "votes", 0);
        due(corner, 4, "votes", 0);
        due(corner, 0, "votes", 1);
        due(corner, 0, "votes", 4);
        due(Hill.on("l3311 g119"), 0, "votes", 0);
        says(21, "who votes for it by asked() (bits)");
        int[] voters = {32, 2, 5, 16, 0};
        for (int way = 0; way <= 4; way++) {
            tells(x, hearths[way], voters[way], "votes", way);
        }
        tells(all, 54, 63, "votes", 1);
        tells(all, 0, 0, "votes", 2);
        tells(corner, 4, 3, "votes", 0);
        says(21, "BAD");
        badOutside(x, 0, 4, 0, "votes", 0);
        refused(new Hill(), BAD, "votes", 5);
        refused(new Hill(), BAD, "votes", -1);
        due(x, 0, "votes", 4);
        due(x, 6, "votes", 0);
        says(21, "STATE: no CELLS");
        refused(new Hill(), STATE, "votes", 0);
        refused(new Hill(), STATE, "votes", 4);
    }

    private static void carries() {
        says(22, "The WAY that CARRIES");
        String[] houses = {"w111", "w101", "w211", "w121", "w011"};
        for (int way = 0; way <= 4; way++) {
            due(Hill.on("l3311 " + houses[way]), way, "carries");
        }
        due(Hill.on(VALLEY), 2, "carries");
        due(Hill.on("l3311 w101 w011"), 0, "carries");
        Hill x = Hill.on(TURNING);
        due(x, 3, "carries");
        x.call("year");
        due(x, 0, "carries");
        says(22, "by how many HEARTHS more than the next one by asked() (0: of like many, or nobody votes)");
        tells(Hill.on(VALLEY), 2, 3, "carries");
        tells(Hill.on("l3311 w109"), 1, 9, "carries");
        tells(Hill.on("l3311 w109 w018"), 1, 1, "carries");
        tells(Hill.on("l3311 w109 w019"), 0, 0, "carries");
        tells(Hill.on("l3311 w108 w019"), 4, 1, "carries");
        tells(Hill.on("l3311 w109 w211 w121 w018"), 1, 1, "carries");
        tells(Hill.on("l3311 w111 w119"), 0, 10, "carries");
        tells(Hill.on("l3311 w119 w109 w211"), 0, 0, "carries");
        Hill nobody = Hill.on("l3311 g119 g111");
        nobody.call("one", 0, 2);
        tells(nobody, 0, 0, "carries");
        says(22, "STATE: no CELLS");
        refused(new Hill(), STATE, "carries");
    }

    private static void buy() {
        says(23, "The fewest HEARTHS of PEOPLE (who vote, or not) to be bought, who vote for a WAY then, "
            + "all others as they would, so that it CARRIES");
        Hill x = Hill.on(VALLEY);
        int[] price = {3, 4, 0, 5, 7};
        for (int way = 0; way <= 4; way++) {
            due(x, price[way], "buy", way);
        }
        due(Hill.on("l3311 w112 w111"), 2, "buy", 2);
        due(Hill.on("l3311 w111 w111"), 2, "buy", 2);
        due(Hill.on("l3311 w119w119w119w119w119w119"), 36, "buy", 4);
        // A GOAT's one HEARTH is bought, too, as it helps where one WIDOW's alone would be of like many.
        Hill goat = Hill.on("l3311 w114 w114 g111");
        due(goat, 5, "buy", 2);
        due(Hill.on("l3311 g113 w114"), 4, "buy", 1);
        // Of like many, or where nobody votes, 0 CARRIES.
        due(Hill.on("l3311 w101 w121"), 0, "buy", 0);
        due(Hill.on("l3311 g111"), 0, "buy", 0);
        due(Hill.on("l3311 w102 w111"), 2, "buy", 0);
        due(Hill.on("l3311 w103 w111 g112"), 2, "buy", 0);
        says(23, "whose by asked() (bits; of like few the least number)");
        int[] whose = {2, 4, 0, 1, 6};
        for (int way = 0; way <= 4; way++) {
            tells(x, price[way], whose[way], "buy", way);
        }
        tells(Hill.on("l3311 w111w111w111"), 2, 3, "buy", 2);
        tells(Hill.on("l3311 w112w111w111"), 3, 3, "buy", 2);
        tells(Hill.on("l3311 w111w111w112"), 3, 5, "buy", 2);
        tells(Hill.on("l3311 w119w119w119w119w119w119"), 36, 15, "buy", 4);
        tells(goat, 5, 5, "buy", 2);
        tells(goat, 0, 0, "buy", 0);
    }

    private static void buyRefused() {
        says(23, "NONE: it can't be voted for, or by none");
        Hill corner = Hill.on("l3300 g117");
        tells(corner, 7, 1, "buy", 2);
        refused(corner, NONE, "buy", 1);
        refused(corner, NONE, "buy", 4);
        due(corner, 7, "buy", 3);
        Hill x = Hill.on(TURNING);
        x.call("year");
        refused(x, NONE, "buy", 1);
        refused(x, NONE, "buy", 2);
        x.call("year");
        due(x, 0, "buy", 1);
        // By none never comes to pass: whoever votes otherwise can be bought.
        due(Hill.on("l3311 w119"), 9, "buy", 1);
        says(23, "BAD");
        badOutside(x, 0, 4, 0, "buy", 0);
        refused(new Hill(), BAD, "buy", 5);
        refused(new Hill(), BAD, "buy", -1);
        says(23, "STATE: no CELLS");
        refused(new Hill(), STATE, "buy", 0);
        refused(new Hill(), STATE, "buy", 4);
        due(Hill.on(LONE), 1, "buy", 4);
    }

    private static void then() {
        says(24, "On which CELL it is in n (0 .. 40) YEARS");
        Hill x = Hill.on(TURNING);
        int[] cells = {4, 9, 9, 4, 4};
        for (int n = 0; n <= 40; n++) {
            due(x, cells[n % 4], "then", n);
        }
        x.call("year");
        due(x, 9, "then", 0);
        due(x, 4, "then", 39);
        due(x, 9, "then", 40);
        says(24, "what all GAIN then (HEARTHS times) by asked()");
        tells(x, 9, 18 + 63 + 2 + 12 + 40, "then", 0);
        tells(x, 4, 15 + 56 + 3 + 10 + 48, "then", 2);
        tells(x, 9, 135, "then", 40);
        tells(Hill.on("l3311 g119"), 4, 0, "then", 40);
        tells(Hill.on("l3311 w119"), 4, 81, "then", 0);
        says(24, "BAD");
        badOutside(x, 0, 40, 0, "then", 0);
        refused(new Hill(), BAD, "then", 41);
        refused(new Hill(), BAD, "then", -1);
        due(x, 9, "then", 40);
        says(24, "STATE: no CELLS");
        refused(new Hill(), STATE, "then", 0);
        refused(new Hill(), STATE, "then", 40);
    }

    private static void when() {
        says(25, "In how many YEARS (0 .. 60) it is first on a CELL");
        Hill x = Hill.on(TURNING);
        due(x, 0, "when", 4);
        due(x, 1, "when", 9);
        x.call("year");
        due(x, 0, "when", 9);
        due(x, 2, "when", 4);
        Hill lone = Hill.on(LONE);
        due(lone, 0, "when", 4);
        due(lone, 1, "when", 1);
        due(lone, 2, "when", 2);
        due(lone, 0, "asked");
        due(Hill.on("l5542 w034 f428 w012 m427 h435 v022"), 58, "when", 20);
        Hill late = Hill.on("l5543 f418 w429 w428 m004 w421 f026");
        due(late, 1, "year");
        late.call("house", 1, 15);
        late.call("house", 2, 9);
        late.call("house", 4, 10);
        due(late, 59, "when", 20);
        late.call("year");
        due(late, 58, "when", 20);
        // The latest that long searches found: no LAND is known in which a CELL is first reached in 61 YEARS.
        Hill latest = Hill.on("l5541 h242 w016 w036 v428 f035 m018");
        due(latest, 4, "year");
        latest.call("house", 5, 24);
        due(latest, 60, "when", 20);
        due(latest, 54, "when", 21);
        latest.call("year");
        due(latest, 59, "when", 20);
        says(25, "NONE: in none of these");
        tells(x, 9, 135, "then", 0);
        refused(x, NONE, "when", 3);
        refused(lone, NONE, "when", 0);
        refused(lone, NONE, "when", 8);
        says(25, "BAD");
        badOutside(x, 0, 19, 0, "when", 0);
        badOutside(lone, 0, 8, 0, "when", 0);
        due(x, NONE, "when", 19);
        due(lone, NONE, "when", 8);
        refused(new Hill(), BAD, "when", 0);
    }

    private static void round() {
        Hill x = Hill.on(TURNING);
        Hill lone = Hill.on(LONE);
        says(26, "Behind how many YEARS CELL and back are first as they were before");
        due(x, 4, "round");
        due(lone, 4, "round");
        due(Hill.on("l3311 g111"), 1, "round");
        due(Hill.on("l3301 w111"), 3, "round");
        due(Hill.on("l5542 w034 f428 w012 m427 h435 v022"), 64, "round");
        says(26, "how many YEARS ago that was by asked()");
        tells(x, 4, 4, "round");
        tells(lone, 4, 1, "round");
        // It is on the CELL again a YEAR earlier, but back was another WAY then.
        lone.call("year");
        tells(lone, 3, 1, "round");
        lone.call("year");
        tells(lone, 2, 1, "round");
        lone.call("year");
        tells(lone, 1, 1, "round");
        tells(Hill.on("l5542 w034 f428 w012 m427 h435 v022"), 64, 30, "round");
        says(26, "STATE: no CELLS");
        refused(new Hill(), STATE, "round");
    }

    private static void course() {
        says(27, "The most that all GAIN (HEARTHS times, of each YEAR behind it, together), if it goes any WAYS "
            + "(not back, as if they were voted for) for n (0 .. 5) YEARS");
        Hill x = Hill.on(LONE);
        int[] most = {0, 1, 3, 5, 7, 9};
        for (int n = 0; n <= 5; n++) {
            due(x, most[n], "course", n, 0);
        }
        Hill back = Hill.on("l3301 w112");
        back.call("year");
        back.call("house", 0, 3);
        due(back, 16, "course", 1, 0);
        due(back, 34, "course", 2, 0);
        holds(back, 0, 0, 4);
        back.call("push", 2);
        back.call("push", 4);
        due(back, 18, "course", 1, 0);
        due(Hill.on("l3311 g119"), 0, "course", 5, 0);
        due(Hill.on("l3311 w119w119w119w119w119w119"), 5 * 54 * 9, "course", 5, 0);
        // The first CELL and the last one, of the least LAND and of the greatest.
        due(Hill.on("l3300 w001"), 9, "course", 1, 0);
        due(Hill.on("l3322 w221"), 45, "course", 5, 0);
        due(Hill.on("l5500 w002"), 90, "course", 5, 0);
        due(Hill.on("l5544 w442"), 90, "course", 5, 0);
        due(Hill.on("l5500 f001"), 1 + 2 + 3 + 4 + 5, "course", 5, 0);
        says(27, "the first such WAYS by numbers come to a ROW (anew)");
        due(x, 9, "course", 5, 5);
        holds(x, 5, 1, 2, 0, 0, 0);
        due(x, 1, "course", 1, 5);
        holds(x, 5, 1);
        due(x, 0, "course", 0, 5);
        holds(x, 5);
        x.fill(3, 9, 9, 9, 9, 9, 9, 9);
        due(x, 3, "course", 2, 3);
        holds(x, 3, 1, 2);
        due(x, 3, "count", 8);
        Hill goats = Hill.on("l3311 g119");
        due(goats, 0, "course", 3, 1);
        holds(goats, 1, 0, 0, 0);
        Hill widow = Hill.on("l3300 w221");
        due(widow, 6 + 7 + 8 + 9 + 9, "course", 5, 1);
        holds(widow, 1, 2, 2, 3, 3, 0);
        says(27, "BAD");
        badOutside(x, 0, 5, 0, "course", 1, 0);
        badOutside(x, 0, 5, 1, "course", 1, 0);
        refused(new Hill(), BAD, "course", 6, 0);
        refused(new Hill(), BAD, "course", 0, 6);
        due(x, 0, "course", 0, 0);
        due(x, 9, "course", 5, 5);
        says(27, "STATE: no CELLS");
        refused(new Hill(), STATE, "course", 0, 0);
        refused(new Hill(), STATE, "course", 5, 5);
    }

    private static void fits() {
        Hill x = Hill.on(THREE);
        x.call("row", 0, 0);
        x.fill(1, 0, 2);
        x.fill(2, 0, 2, 2, 5);
        x.fill(3, 0, 2, 1, 8);
        x.fill(4, 0, 2, 0, 2, 0, 2, 0, 2, 0, 2, 0, 2, 0, 2, 0, 2, 0, 2, 0, 2,
            0, 2, 0, 2, 0, 2, 0, 2, 0, 2, 0, 2, 0, 2, 0, 2, 0, 2, 2, 0);
        int[] cells = {511, 4 + 16 + 64, 4, 0, 16};
        int[] many = {9, 3, 1, 0, 1};
        says(28, "CELLS (bits) on which it can have stood by these");
        for (int r = 0; r <= 4; r++) {
            due(x, cells[r], "fits", r);
        }
        // What one GAINED may be more than there are PEOPLE.
        x.fill(5, 1, 9, 0, 4);
        due(x, 256, "fits", 5);
        says(28, "how many by asked()");
        for (int r = 0; r <= 4; r++) {
            tells(x, cells[r], many[r], "fits", r);
        }
        pairsRefused(28, "fits", "STATE: no CELLS", "SIZE: not by pairs", "UNLIKE: nobody, a number that is none");
    }

    /** What fits() and next() refuse: their lists are alike, but for how much they say. */
    private static void pairsRefused(int promise, String name, String state, String size, String unlike) {
        Hill x = Hill.on(THREE);
        x.call("row", 0, 0);
        x.fill(1, 3, 31, 0);
        x.fill(2, 3, 31);
        says(promise, "BAD");
        badOutside(x, 0, 5, 0, name, 0);
        refused(new Hill(), BAD, name, 6);
        check(told(name, 0) + " is told", x.call(name, 0) >= 0 ? 1 : 0, 1);
        says(promise, state);
        refused(new Hill(), STATE, name, 0);
        refused(new Hill(), STATE, name, 5);
        says(promise, "NOTHING");
        finds(x, NOTHING, name, 5);
        x.call("row", 5, 0);
        check(told(name, 5) + " is told", x.call(name, 5) >= 0 ? 1 : 0, 1);
        says(promise, size);
        x.call("row", 4, 1);
        finds(x, SIZE, name, 4);
        x.call("row", 4, 39);
        finds(x, SIZE, name, 4);
        x.call("row", 4, 40);
        x.call("one", 0, 0);
        due(x, name.equals("fits") ? 1 : 0, name, 4);
        says(promise, unlike);
        Hill y = Hill.on(THREE);
        int[][] wrong = {{3, 0}, {-1, 0}, {LEAST, 0}, {MOST, 0}, {0, -1}, {0, 31}, {0, LEAST}, {0, MOST}, {0, 0, 3, 0},
            {0, 0, 0, 31}, {3, 0, 0, 0}};
        for (int[] pairs : wrong) {
            y.fill(3, pairs);
            finds(y, UNLIKE, name, 3);
        }
        y.fill(3, 2, 0);
        due(y, name.equals("fits") ? 16 : 0, name, 3);
        y.fill(3, 2, 30);
        due(y, name.equals("fits") ? 0 : NONE, name, 3);
        y.fill(3, 0, 0);
        due(y, name.equals("fits") ? 1 : 0, name, 3);
        says(promise, "(In this order.)");
        Hill none = new Hill();
        none.call("row", 1, 1);
        refused(none, BAD, name, -1);
        refused(none, STATE, name, 1);
        finds(x, SIZE, name, 1);
        finds(x, UNLIKE, name, 2);
    }

    private static void next() {
        Hill x = Hill.on(THREE);
        Hill goats = Hill.on("l3311 g001 f002 w221");
        x.fill(0, 0, 2);
        x.fill(1, 0, 0);
        goats.fill(0, 1, 2);
        goats.call("row", 1, 0);
        says(29, "The one of PEOPLE (the first) whose GAIN tells these CELLS apart best: "
            + "the greatest part of like GAINS is least");
        due(x, 2, "next", 0);
        due(x, 0, "next", 1);
        due(goats, 0, "next", 0);
        due(goats, 1, "next", 1);
        says(29, "that part by asked()");
        tells(x, 2, 1, "next", 0);
        tells(x, 0, 1, "next", 1);
        tells(goats, 0, 3, "next", 0);
        tells(goats, 1, 3, "next", 1);
        Hill all = Hill.on("l5522 g001");
        all.call("row", 0, 0);
        tells(all, 0, 25, "next", 0);
        says(29, "NONE: there is no CELL");
        x.fill(2, 0, 0, 1, 9);
        refused(x, NONE, "next", 2);
        x.fill(2, 0, 0, 1, 5);
        due(x, 0, "next", 2);
        pairsRefused(29, "next", "STATE", "SIZE", "UNLIKE");
    }

    private static void kinds() {
        says(30, "KINDS (bits) that one can be of by a ROW of pairs (a CELL on which it stood, what one GAINED, 0 .. 30)");
        Hill x = Hill.on(THREE);
        x.call("row", 0, 0);
        due(x, 63, "kinds", 0, 0);
        int[][] told = {{2, 1 + 2}, {0, 8 + 32}, {7, 4}, {14, 16}, {3, 0}, {30, 0}};
        for (int[] pair : told) {
            x.fill(0, 4, pair[0]);
            due(x, pair[1], "kinds", 0, 0);
        }
        x.fill(0, 4, 0);
        due(x, 63 - 4, "kinds", 2, 0);
        x.fill(0, 4, 9);
        due(x, 4, "kinds", 2, 0);
        x.fill(0, 4, 0, 1, 5);
        due(x, 32, "kinds", 2, 0);
        // What one GAINED may be more than there are CELLS.
        x.fill(0, 4, 14, 8, 10);
        due(x, 16, "kinds", 0, 0);
        x.fill(0, 1, 4);
        due(x, 2, "kinds", 2, 0);
        x.fill(0, 1, 4, 7, 4);
        due(x, 0, "kinds", 2, 0);
        due(x, 0, "asked");
        kindPairsRefused(30, "kinds", "SIZE: not by pairs", "UNLIKE: no CELL, a number that is none");
    }

    private static void kindPairsRefused(int promise, String name, String size, String unlike) {
        says(promise, "BAD");
        Hill x = Hill.on(THREE);
        x.call("row", 0, 0);
        x.call("row", 4, 0);
        badOutside(x, 0, 2, 0, name, 0, 0);
        badOutside(x, 0, 5, 1, name, 0, 0);
        refused(new Hill(), BAD, name, 0, 0);
        check(told(name, 2, 0) + " is told", x.call(name, 2, 0) >= 0 ? 1 : 0, 1);
        says(promise, "NOTHING");
        finds(x, NOTHING, name, 0, 5);
        x.call("row", 5, 0);
        check(told(name, 0, 5) + " is told", x.call(name, 0, 5) >= 0 ? 1 : 0, 1);
        says(promise, size);
        x.call("row", 4, 1);
        finds(x, SIZE, name, 0, 4);
        x.call("row", 4, 39);
        finds(x, SIZE, name, 0, 4);
        x.call("row", 4, 40);
        check(told(name, 0, 4) + " is told", x.call(name, 0, 4) >= 0 ? 1 : 0, 1);
        says(promise, unlike);
        Hill y = Hill.on(THREE);
        int[][] wrong = {{9, 0}, {-1, 0}, {LEAST, 0}, {MOST, 0}, {0, -1}, {0, 31}, {0, LEAST}, {0, MOST}, {0, 0, 9, 0},
            {0, 0, 0, 31}, {9, 0, 0, 0}};
        for (int[] pairs : wrong) {
            y.fill(3, pairs);
            finds(y, UNLIKE, name, 0, 3);
        }
        y.fill(3, 8, 4);
        check(told(name, 0, 3) + " is told", y.call(name, 0, 3) >= 0 ? 1 : 0, 1);
        y.fill(3, 0, 30);
        due(y, name.equals("kinds") ? 0 : NONE, name, 0, 3);
        y.fill(3, 0, 0);
        check(told(name, 0, 3) + " is told", y.call(name, 0, 3) >= 0 ? 1 : 0, 1);
        says(promise, "(In this order.)");
        refused(y, BAD, name, 3, 5);
        refused(y, BAD, name, 0, 6);
        finds(y, NOTHING, name, 0, 5);
        y.fill(3, 9, 31, 0);
        finds(y, SIZE, name, 0, 3);
        y.fill(3, 9, 31);
        finds(y, UNLIKE, name, 0, 3);
    }

    private static void test() {
        Hill x = Hill.on(THREE);
        x.fill(0, 4, 0);
        x.fill(1, 4, 2);
        x.fill(2, 4, 7);
        x.call("row", 3, 0);
        says(31, "The CELL by which what one GAINS tells these KINDS apart best, likewise (the first)");
        due(x, 1, "test", 2, 0);
        due(x, 0, "test", 0, 1);
        due(x, 0, "test", 0, 2);
        says(31, "that part by asked()");
        // Five KINDS left, which all GAIN otherwise; two that always GAIN alike; one alone; all six.
        tells(x, 1, 1, "test", 2, 0);
        tells(x, 0, 2, "test", 0, 1);
        tells(x, 0, 1, "test", 0, 2);
        tells(x, 1, 1, "test", 2, 3);
        says(31, "NONE: there is no KIND");
        x.fill(4, 4, 3);
        refused(x, NONE, "test", 0, 4);
        kindPairsRefused(31, "test", "SIZE", "UNLIKE");
    }

    private static void way() {
        says(32, "How many steps it is from a CELL to another one");
        Hill x = Hill.on(LONE);
        Hill wide = Hill.on("l5522 f001");
        due(x, 0, "way", 8, 8);
        due(x, 1, "way", 0, 1);
        due(x, 4, "way", 1, 7);
        due(x, 4, "way", 0, 8);
        due(wide, 8, "way", 0, 24);
        due(wide, 8, "way", 4, 20);
        due(wide, 6, "way", 10, 14);
        due(wide, 2, "way", 7, 11);
        says(32, "the first step's WAY of a shortest way by asked() (the least; 0: none needed)");
        tells(x, 4, 2, "way", 1, 7);
        tells(x, 4, 1, "way", 3, 5);
        tells(x, 1, 4, "way", 1, 0);
        tells(x, 1, 3, "way", 0, 3);
        tells(x, 0, 0, "way", 0, 0);
        tells(x, 0, 0, "way", 8, 8);
        tells(wide, 8, 2, "way", 0, 24);
        tells(wide, 8, 1, "way", 24, 0);
        tells(wide, 8, 3, "way", 4, 20);
        tells(wide, 8, 1, "way", 20, 4);
        x.call("push", 1);
        tells(x, 4, 3, "way", 0, 2);
        says(32, "NONE: there is no way (the MOUNTAIN is on either, too)");
        refused(x, NONE, "way", 1, 0);
        refused(x, NONE, "way", 0, 1);
        refused(x, NONE, "way", 1, 1);
        due(x, 1, "way", 4, 3);
        says(32, "BAD");
        badOutside(x, 0, 8, 0, "way", 0, 0);
        badOutside(x, 0, 8, 1, "way", 0, 0);
        due(x, 4, "way", 0, 8);
        due(x, 4, "way", 8, 0);
        refused(new Hill(), BAD, "way", 0, 0);
    }

    private static void parts() {
        says(33, "CELLS (bits; neither of these, nor that of the MOUNTAIN) of which each, were it closed, too, "
            + "would let no way be between these");
        Hill x = Hill.on(LONE);
        due(x, 0, "parts", 0, 8);
        due(x, 0, "parts", 0, 1);
        x.call("push", 1);
        due(x, 8, "parts", 0, 8);
        due(x, 8, "parts", 8, 0);
        due(x, 8 + 32, "parts", 0, 2);
        due(x, 0, "parts", 0, 3);
        due(x, 0, "parts", 3, 5);
        Hill wide = Hill.on("l5534 f001");
        due(wide, 1 << 19, "parts", 24, 0);
        due(wide, 1 << 19, "parts", 0, 24);
        due(wide, 0, "parts", 19, 24);
        says(33, "all such, if there is none as it is");
        due(x, 511 - 2 - 1, "parts", 1, 0);
        due(x, 511 - 2 - 256, "parts", 8, 1);
        due(wide, (1 << 25) - 1 - (1 << 23) - (1 << 24), "parts", 23, 24);
        due(x, 0, "asked");
        says(33, "BAD: also the same");
        refused(x, BAD, "parts", 0, 0);
        refused(x, BAD, "parts", 8, 8);
        refused(x, BAD, "parts", 1, 1);
        badOutside(x, 0, 8, 0, "parts", 0, 0);
        badOutside(x, 0, 8, 1, "parts", 0, 0);
        refused(x, BAD, "parts", 9, 9);
        refused(new Hill(), BAD, "parts", 0, 1);
        due(x, 0, "parts", 7, 8);
    }

    private static void duel() {
        says(34, "By n (0 .. 6) turns in all one pushes it a WAY (1 .. 4), or not, then another one, the first wanting "
            + "that all GAIN much at last (HEARTHS times), the other one little: how much");
        Hill x = Hill.on(LONE);
        int[] gained = {0, 1, 0, 1, 0, 1, 0};
        for (int n = 0; n <= 6; n++) {
            due(x, gained[n], "duel", n);
        }
        Hill widow = Hill.on("l3300 w222");
        due(widow, 10, "duel", 0);
        due(widow, 12, "duel", 1);
        due(widow, 10, "duel", 2);
        due(widow, 12, "duel", 3);
        // The first one does not push it off the HOUSE; the other one does.
        Hill rest = Hill.on("l3311 w119");
        due(rest, 81, "duel", 1);
        due(rest, 72, "duel", 2);
        due(rest, 81, "duel", 3);
        // The other one does not push where it is worst already.
        due(Hill.on("l3300 g119"), 0, "duel", 6);
        due(Hill.on("l5500 w001"), 8, "duel", 6);
        due(Hill.on("l5544 w441"), 9, "duel", 5);
        Hill back = Hill.on("l3301 w112");
        back.call("year");
        back.call("house", 0, 3);
        due(back, 18, "duel", 1);
        due(back, 4, "count", 2);
        due(back, 0, "asked");
        says(34, "BAD");
        badOutside(x, 0, 6, 0, "duel", 0);
        refused(new Hill(), BAD, "duel", 7);
        refused(new Hill(), BAD, "duel", -1);
        due(x, 0, "duel", 6);
        says(34, "STATE: no CELLS");
        refused(new Hill(), STATE, "duel", 0);
        refused(new Hill(), STATE, "duel", 6);
    }

    private static void odds() {
        says(35, "Chances that a WAY (0 .. 4) CARRIES now, if each of PEOPLE who vote abstains by p (0 .. 12) of 12, "
            + "each by himself: 1");
        Hill x = Hill.on("l3311 f001 f222");
        int[][] sixteenths = {{0, 1, 16}, {1, 3, 4}, {2, 3, 16}, {3, 0, 1}, {4, 0, 1}};
        for (int[] way : sixteenths) {
            terms(x, way[1], way[2], "odds", way[0], 3);
        }
        terms(x, 1, 1, "odds", 1, 0);
        terms(x, 0, 1, "odds", 0, 0);
        terms(x, 1, 1, "odds", 0, 12);
        terms(x, 0, 1, "odds", 1, 12);
        terms(x, 11, 12, "odds", 1, 1);
        terms(x, 1, 12, "odds", 1, 11);
        terms(x, 121, 144, "odds", 0, 11);
        Hill even = Hill.on("l3311 f002 f222 g119");
        terms(even, 1, 2, "odds", 0, 6);
        terms(even, 1, 4, "odds", 1, 6);
        terms(even, 1, 4, "odds", 2, 6);
        Hill back = Hill.on("l3301 w112");
        back.call("year");
        back.call("house", 0, 3);
        terms(back, 0, 1, "odds", 4, 0);
        terms(back, 1, 1, "odds", 0, 5);
        due(back, 0, "asked");
        says(35, "BAD");
        badOutside(x, 0, 4, 0, "odds", 0, 0);
        badOutside(x, 0, 12, 1, "odds", 0, 0);
        refused(new Hill(), BAD, "odds", 5, 0);
        refused(new Hill(), BAD, "odds", 0, 13);
        terms(x, 0, 1, "odds", 4, 12);
        says(35, "STATE: no CELLS");
        refused(new Hill(), STATE, "odds", 0, 0);
        refused(new Hill(), STATE, "odds", 4, 12);
    }

    private static void mid() {
        says(36, "The mean of what all GAIN (HEARTHS times) behind this YEAR so: 1");
        Hill x = Hill.on("l3311 f001 f222");
        terms(x, 7, 1, "mid", 0);
        terms(x, 105, 16, "mid", 3);
        terms(x, 6, 1, "mid", 12);
        // By 6 of 12: NORTH (7) 1 of 2, EAST (5) 1 of 4, it stays (6) 1 of 4.
        terms(x, 25, 4, "mid", 6);
        terms(Hill.on("l3311 w119"), 81, 1, "mid", 7);
        terms(Hill.on("l3311 g119"), 0, 1, "mid", 7);
        Hill widow = Hill.on("l3301 w111");
        // 9 on the HOUSE by 11 of 12, else 8.
        terms(widow, 107, 12, "mid", 1);
        due(widow, 3, "count", 2);
        due(widow, 0, "count", 3);
        says(36, "BAD");
        badOutside(x, 0, 12, 0, "mid", 0);
        refused(new Hill(), BAD, "mid", 13);
        refused(new Hill(), BAD, "mid", -1);
        terms(x, 6, 1, "mid", 12);
        terms(x, 7, 1, "mid", 0);
        says(36, "STATE: no CELLS");
        refused(new Hill(), STATE, "mid", 0);
        refused(new Hill(), STATE, "mid", 12);
    }

    private static void lots() {
        says(37, "n (1 .. 20) DEEDS truly by LOTS of a seed: a number comes from the one ahead by 48271 times it modulo "
            + "2147483647, the first from the seed (1 .. 2147483646): if it modulo 3 is 0, it is PUSHED the WAY that 1 and "
            + "it by 8, cut, modulo 4 are (where there is no CELL it stays, all the same a push), else a YEAR: its CELL then");
        Hill x = Hill.on(LONE);
        due(x, 1, "lots", 1, 1);
        due(x, 1, "count", 4);
        due(x, 3, "count", 5);
        x.call("undo", 0);
        // The second number of seed 1, 182605794, pushes it north, where there is no CELL any more.
        due(x, 1, "lots", 2, 1);
        due(x, 2, "count", 3);
        due(x, 1, "count", 4);
        due(x, 0, "count", 5);
        due(x, 1, "undo", 1);
        due(x, 3, "count", 5);
        x.call("undo", 0);
        int[][] pushed = {{48271, 1}, {3, 5}, {12, 7}, {6, 3}, {2147483646, 7}};
        for (int[] seed : pushed) {
            due(x, seed[1], "lots", 1, seed[0]);
            due(x, 0, "count", 4);
            due(x, 1, "count", 3);
            x.call("undo", 0);
        }
        for (int seed : new int[] {1, 2, 5, 12345, 48271, 2147483645, 2147483646}) {
            byHand(seed, 20);
        }
        due(x, 0, "asked");
    }

    /** The same DEEDS one by one, up to a push into nowhere, which push() refuses. */
    private static void byHand(int seed, int n) {
        Hill lots = Hill.on("l5522 w221 f003 h219");
        Hill hand = Hill.on("l5522 w221 f003 h219");
        long number = seed;
        for (int d = 1; d <= n; d++) {
            number = number * 48271 % 2147483647;
            int way = number % 3 == 0 ? (int) (1 + number / 8 % 4) : 0;
            if (way == 0) {
                hand.call("year");
            } else if (hand.call("push", way) == STATE) {
                return;
            }
            check("lots(" + d + ", " + seed + ")", lots.call("lots", d, seed), hand.call("count", 2));
            for (int what = 3; what <= 5; what++) {
                check("count(" + what + ")", lots.call("count", what), hand.call("count", what));
            }
            check("undo", lots.call("undo", 0), d);
        }
    }

    private static void lotsRefused() {
        says(37, "BAD");
        Hill x = Hill.on(LONE);
        badOutside(x, 1, 20, 0, "lots", 1, 1);
        badOutside(x, 1, 2147483646, 1, "lots", 1, 1);
        refused(x, BAD, "lots", 1, -1);
        refused(new Hill(), BAD, "lots", 0, 1);
        refused(new Hill(), BAD, "lots", 21, 1);
        refused(new Hill(), BAD, "lots", 1, 0);
        refused(new Hill(), BAD, "lots", 1, MOST);
        due(x, 1, "lots", 1, 1);
        says(37, "STATE: no CELLS");
        refused(new Hill(), STATE, "lots", 1, 1);
        refused(new Hill(), STATE, "lots", 20, 2147483646);
        says(37, "FULL: with n more there would be more than 40 DEEDS");
        x.doUntil(20);
        check("lots(20, 1) with 20 deeds goes", x.call("lots", 20, 1) >= 0 ? 1 : 0, 1);
        due(x, 40, "count", 3);
        refused(x, FULL, "lots", 1, 1);
        x.call("undo", 21);
        refused(x, FULL, "lots", 20, 1);
        check("lots(19, 1) with 21 deeds goes", x.call("lots", 19, 1) >= 0 ? 1 : 0, 1);
        due(x, 40, "count", 3);
        x.call("undo", 39);
        refused(x, FULL, "lots", 2, 1);
        check("lots(1, 1) with 39 deeds goes", x.call("lots", 1, 1) >= 0 ? 1 : 0, 1);
        refused(x, FULL, "lots", 1, 1);
        says(37, "(FULL last.)");
        refused(x, BAD, "lots", 21, 1);
        refused(x, BAD, "lots", 1, 0);
        refused(x, FULL, "lots", 20, 1);
    }

    private static void asked() {
        says(38, "What the latest lay(), at(), mean(), one(), votes(), carries(), buy(), then(), round(), fits(), next(), "
            + "test(), way() that was not refused (nor answered NONE) told");
        Hill x = Hill.on(VALLEY);
        x.fill(0, 70, 90);
        x.call("row", 1, 0);
        x.fill(2, 0, 30);
        tells(x, 1, 70, "lay", 0, 0, 71);
        tells(x, 1, 90, "at", 0, 1);
        tells(x, 1, 80, "mean", 0);
        tells(x, 1, 19, "one", 2, 1);
        tells(x, 9, 5, "votes", 2);
        tells(x, 2, 3, "carries");
        tells(x, 7, 6, "buy", 4);
        tells(x, 12, 105, "then", 0);
        x.call("carries");
        tells(x, (1 << 20) - 1, 20, "fits", 1);
        tells(x, 2, 2, "way", 0, 2);
        x.call("at", 0, 1);
        Object[][] others = {{"row", 3, 2}, {"tear", 3}, {"copy", 0, 0, 0, 1, 0}, {"text", 1, 1}, {"put", 1, 0, 9}, {"fault", 1},
            {"mark", 1, 1}, {"gain", 1, 1}, {"year"}, {"push", 3}, {"house", 0, 1}, {"undo", 0}, {"keep", 0}, {"on", 0},
            {"when", 12}, {"course", 2, 3}, {"kinds", 0, 1}, {"parts", 0, 1}, {"duel", 2}, {"odds", 1, 1}, {"mid", 2},
            {"lots", 1, 1}, {"upper"}, {"lower"}, {"count", 3}, {"finding"}, {"findings", 1}, {"digest"}, {"land", 0}};
        for (Object[] other : others) {
            int[] numbers = new int[other.length - 1];
            for (int i = 0; i < numbers.length; i++) {
                numbers[i] = (Integer) other[i + 1];
            }
            x.call((String) other[0], numbers);
            due(x, 90, "asked");
        }
        refused(x, BAD, "votes", 5);
        refused(x, BAD, "then", 41);
        finds(x, BEYOND, "at", 0, 2);
        finds(x, NOTHING, "mean", 5);
        refused(x, NONE, "next", 2);
        refused(x, NONE, "way", 12, 0);
        x.fill(4, 0, 30);
        x.call("at", 0, 1);
        refused(x, NONE, "test", 0, 4);
        x.call("push", 1);
        x.call("push", 1);
        refused(x, NONE, "buy", 1);
        tells(Hill.on(TURNING), 4, 4, "round");
        Hill three = Hill.on(THREE);
        three.fill(0, 0, 2);
        three.fill(1, 4, 0);
        three.call("at", 1, 0);
        tells(three, 2, 1, "next", 0);
        three.call("at", 1, 0);
        tells(three, 1, 1, "test", 2, 1);
        says(38, "0 before");
        Hill fresh = new Hill();
        due(fresh, 0, "asked");
        fresh.call("at", 0, 0);
        fresh.call("row", 0, 3);
        due(fresh, 0, "asked");
    }

    private static void upperAndLower() {
        Hill x = Hill.on("l3311 f001 f222");
        says(39, "0 before");
        due(new Hill(), 0, "upper");
        due(x, 0, "upper");
        says(40, "1 before");
        due(new Hill(), 1, "lower");
        due(x, 1, "lower");
        says(39, "The upper number that was told last");
        x.call("odds", 2, 3);
        due(x, 3, "upper");
        due(x, 3, "upper");
        x.call("mid", 3);
        due(x, 105, "upper");
        says(40, "Its lower number");
        x.call("odds", 2, 7);
        due(x, 144, "lower");
        x.call("mid", 3);
        due(x, 16, "lower");
        for (int promise = 39; promise <= 40; promise++) {
            says(promise, promise == 39 ? "The upper number that was told last" : "Its lower number");
            String name = promise == 39 ? "upper" : "lower";
            int told = promise == 39 ? 105 : 16;
            refused(x, BAD, "odds", 5, 3);
            refused(x, BAD, "mid", 13);
            x.call("row", 0, 1);
            x.call("mean", 0);
            x.call("year");
            x.call("land", 0);
            due(x, told, name);
        }
        x.call("odds", 4, 3);
        due(x, 1, "lower");
        says(39, "The upper number that was told last");
        due(x, 0, "upper");
    }

    private static void counts(Hill x, int... all) {
        for (int what = 0; what <= 10; what++) {
            due(x, all[what], "count", what);
        }
    }

    private static void count() {
        says(41, "0 PEOPLE, 1 CELLS, 2 the MOUNTAIN's CELL (0 without CELLS), 3 DEEDS, 4 YEARS that passed, "
            + "5 the WAY back (0: none), 6 all HEARTHS, 7 WIDOWS (MINERS, too), 8 ROWS, 9 TEXTS that are there, "
            + "10 kept LANDS");
        Hill x = new Hill();
        counts(x, 0, 0, 0, 0, 0, 0, 0, 0, 0, 0, 0);
        x.write(0, VALLEY);
        x.call("land", 0);
        counts(x, 6, 20, 12, 0, 0, 0, 29, 2, 0, 1, 0);
        x.call("year");
        counts(x, 6, 20, 13, 1, 1, 4, 29, 2, 0, 1, 0);
        x.call("push", 1);
        counts(x, 6, 20, 8, 2, 1, 0, 29, 2, 0, 1, 0);
        x.call("house", 0, 19);
        x.call("row", 5, 0);
        x.call("text", 3, 0);
        x.call("keep", 2);
        counts(x, 6, 20, 8, 3, 1, 0, 29, 2, 1, 2, 1);
        x.call("undo", 1);
        x.call("tear", 5);
        counts(x, 6, 20, 13, 1, 1, 4, 29, 2, 0, 2, 1);
        for (int r = 0; r <= 5; r++) {
            x.call("row", r, 40);
        }
        for (int t = 0; t <= 3; t++) {
            x.write(t, "l5544 m449m449m449m449w449w449");
        }
        x.call("land", 3);
        for (int k = 0; k <= 2; k++) {
            x.call("keep", k);
        }
        counts(x, 6, 25, 24, 0, 0, 0, 54, 6, 6, 4, 3);
        says(41, "BAD");
        badOutside(x, 0, 10, 0, "count", 0);
        due(x, 6, "count", 0);
        due(x, 3, "count", 10);
    }

    private static void findings() {
        says(42, "The latest FINDING (0 before any)");
        Hill x = new Hill();
        due(x, 0, "finding");
        x.call("row", 6, 0);
        x.call("year");
        due(x, 0, "finding");
        x.call("row", 0, -1);
        due(x, SIZE, "finding");
        x.call("at", 0, 0);
        due(x, NOTHING, "finding");
        x.call("row", 0, 0);
        due(x, NOTHING, "finding");
        x.call("at", 0, 0);
        due(x, BEYOND, "finding");
        x.call("mean", 0);
        due(x, NOUGHT, "finding");
        x.call("row", 6, -1);
        x.write(0, LONE);
        x.call("land", 0);
        due(x, NOUGHT, "finding");
        x.call("mark", 0, 1);
        due(x, UNLIKE, "finding");
        says(43, "How often a FINDING (1 .. 5) was answered");
        for (int f = 1; f <= 5; f++) {
            due(x, 1, "findings", f);
        }
        x.call("mark", 0, 1);
        x.call("mark", 0, 2);
        x.call("row", 1, -1);
        int[] often = {1, 1, 3, 1, 2};
        for (int f = 1; f <= 5; f++) {
            due(x, often[f - 1], "findings", f);
            due(new Hill(), 0, "findings", f);
        }
        for (int c = 0; c < 300; c++) {
            x.call("tear", 5);
        }
        due(x, 301, "findings", 1);
        says(43, "BAD");
        badOutside(x, 1, 5, 0, "findings", 1);
        due(x, 301, "findings", 1);
        due(x, 2, "findings", 5);
    }

    private static long mixed(long start, int... values) {
        long h = start;
        for (int value : values) {
            h = 31 * h + value;
        }
        return h;
    }

    private static void digest() {
        says(44, "h = 17");
        Hill x = new Hill();
        long nothing = mixed(17, 0, 0, 0, 0, 0, 0, 0, 0, 0, 0, 0, -1, -1, -1, -1, -1, -1, -1, -1, -1, -1, -1, -1, -1);
        due(x, nothing, "digest");
        due(x, nothing, "digest");
        says(44, "then h = 31 h + v for each v: count() 0 to 10");
        Hill goat = Hill.on("l3301 g117");
        goat.call("push", 2);
        goat.call("keep", 1);
        goat.call("row", 5, 0);
        int[] text = {10, 'l', '3', '3', '0', '1', ' ', 'g', '1', '1', '7', -1, -1, -1};
        long h = mixed(17, 1, 9, 4, 1, 0, 0, 7, 0, 1, 1, 1);
        h = mixed(h, 3, 4, 7, 0, NONE);
        h = mixed(h, -1, 1, -1);
        h = mixed(h, -1, -1, -1, -1, -1, 0);
        due(goat, mixed(h, text), "digest");
        goat.call("year");
        h = mixed(17, 1, 9, 4, 2, 1, 0, 7, 0, 1, 1, 1);
        h = mixed(h, 3, 4, 7, 0, NONE);
        h = mixed(h, -1, 1, -1);
        h = mixed(h, -1, -1, -1, -1, -1, 0);
        due(goat, mixed(h, text), "digest");
        says(44, "of each of PEOPLE one() 0 to 4");
        Hill two = Hill.on("l3301 w012m219");
        h = mixed(17, 2, 9, 3, 0, 0, 0, 11, 2, 0, 1, 0);
        h = mixed(h, 2, 3, 2, 9, 0, 4, 5, 9, 14, 2);
        h = mixed(h, -1, -1, -1, -1, -1, -1, -1, -1, -1);
        due(two, mixed(h, 14, 'l', '3', '3', '0', '1', ' ', 'w', '0', '1', '2', 'm', '2', '1', '9', -1, -1, -1), "digest");
        says(44, "of each kept LAND how many DEEDS (-1: missing)");
        Hill kept = Hill.on("l3301g117");
        kept.call("keep", 2);
        kept.doUntil(40);
        kept.call("keep", 0);
        kept.call("undo", 0);
        h = mixed(17, 1, 9, 3, 0, 0, 0, 7, 0, 0, 1, 2);
        h = mixed(h, 3, 4, 7, 0, NONE);
        h = mixed(h, 40, -1, 0);
        h = mixed(h, -1, -1, -1, -1, -1, -1);
        due(kept, mixed(h, 9, 'l', '3', '3', '0', '1', 'g', '1', '1', '7', -1, -1, -1), "digest");
        says(44, "of each ROW its size (-1: missing) and places, of each TEXT likewise");
        x.fill(0, LEAST, MOST);
        x.call("row", 4, 0);
        x.call("text", 0, 0);
        x.call("text", 3, 3);
        x.call("put", 3, 0, 255);
        x.call("put", 3, 2, 128);
        h = mixed(17, 0, 0, 0, 0, 0, 0, 0, 0, 2, 2, 0, -1, -1, -1);
        h = mixed(h, 2, LEAST, MOST, -1, -1, -1, 0, -1);
        due(x, mixed(h, 0, -1, -1, 3, -1, 32, -128), "digest");
        x.call("tear", 0);
        x.call("row", 4, 40);
        h = mixed(17, 0, 0, 0, 0, 0, 0, 0, 0, 1, 2, 0, -1, -1, -1);
        h = mixed(mixed(mixed(h, -1, -1, -1, -1, 40), new int[40]), -1);
        due(x, mixed(h, 0, -1, -1, 3, -1, 32, -128), "digest");
    }
}
