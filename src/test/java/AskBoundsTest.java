/**
 * Promises 21 to 35 and the third part of "Terms" at their bounds: above each test stands the sentence that it holds the
 * class against.
 */
public final class AskBoundsTest {
    private static final Check CHECK = new Check();
    private static final String NONE = "-1";
    private static final String HIDDEN = "-1000000";
    private static final String[] FAR = {"LEAST", "-2147483647", "-1000000", "-2", "1000", "10000", "1073741824", "MOST"};

    /** Something TAKEN, an ACT to undo, an IMAGE, something SEEN, a LAW and a TAPE, so that a change would show. */
    private static final Scene LIVED = Scene.of("enact y:n*3+4-d", "law 0", "estate sw5;tx2y3v4;tx5y2v5;tx5y5;tx8y1;gx4;gx6;gx1", "drives 1",
        "putOut 0", "image", "seen 0 4 1 false", "putOut 1", "tape t;g");

    public static void main(String[] args) {
        onlyAsked();
        taker();
        bestLine();
        bestLineRefused();
        bestPeg();
        dealt();
        seen();
        lay();
        layOfLost();
        ask();
        claimOfNone();
        claimRows();
        claimRefused();
        game();
        gameAtTheEdge();
        rests();
        oddsOfOne();
        oddsAtTheEdges();
        oddsCut();
        shares();
        rising();
        lastAndFinest();
        busiest();
        richestAndKeenest();
        gap();
        wholeAndLetBy();
        mostRefused();
        ahead();
        CHECK.finish("AskBoundsTest");
    }

    // "(Apart, from as it is now.)"
    private static void onlyAsked() {
        String[] calls = {"thing 0 6", "gun 1 3", "gun 1 4", "taker 0", "bestLine 3 0", "bestLine 10 1", "bestPeg 1 0", "bestPeg 2 1", "dealt 0", "dealt 1",
            "lay 0 -1", "lay 0 3", "ask 0 3", "claim 0", "claim 1", "game 0 1 2 3 0", "game 2 1 3 0 1", "rests 0 2 -1", "rests 0 2 0",
            "odds 1 50", "shares 0 100", "rising 3", "most 0", "most 1", "most 2", "most 3", "most 4", "most 5", "most 6", "most 7", "most 8",
            "ahead 50", "count 6", "rule 0", "status 0", "log 0 0", "fault 0", "fault 1"};
        for (String call : calls) {
            LIVED.refused(CHECK, "only asked", call, Scene.answer(LIVED.made(), call));
            LIVED.then(call).due(CHECK, "asked again", call, Scene.answer(LIVED.made(), call));
        }
        for (String first : calls) {
            Scene behind = LIVED.then(first);
            for (String call : calls) {
                behind.due(CHECK, "asked behind " + first, call, Scene.answer(LIVED.made(), call));
            }
        }
    }

    // "Who TAKES a THING in a DRIVE now. NONE: nobody, it does not RISE, no such THING."
    private static void taker() {
        Scene at = Scene.of("estate sl3r6;tx3y9;tx6y9;tx2y9;tx7y9;tx5y9;gx3s1;gx6s1;gx2s1;gx7s1");
        at.dues(CHECK, "P21", "taker 0 = 0", "taker 1 = 1", "taker 2 = -1", "taker 3 = -1", "taker 4 = -1", "taker 5 = -1", "taker -1 = -1",
            "line 2 7 = 6", "taker 2 = 2", "taker 3 = 3", "drives 1 = 1", "taker 0 = -1", "taker 3 = -1", "taker 4 = -1", "putOut 3 = 21", "taker 3 = 3");
        for (String far : FAR) {
            at.refused(CHECK, "P21 no such THING", "taker " + far, NONE);
        }
    }

    // "LINE for n (1 .. 10) columns: 10 times from and to, so many columns, by which VALUE TAKEN is most (of several the least)"
    private static void bestLine() {
        for (int n = 1; n <= 10; n++) {
            for (int x = 0; x < 10; x++) {
                int from = Math.max(0, x - n + 1);
                Scene.of("estate sl4r4;tx" + x + "y9v7;gx" + x).dues(CHECK, "P22 THING at " + x, "bestLine " + n + " 0 = " + (10 * from + from + n - 1),
                    "bestLine " + n + " 1 = 7");
            }
            Scene.of("estate tx9y9v0;gx9").dues(CHECK, "P22 no VALUE", "bestLine " + n + " 0 = " + (n - 1), "bestLine " + n + " 1 = 0");
            Scene.of("estate tx9y9v9;gx0").dues(CHECK, "P22 nobody reaches", "bestLine " + n + " 0 = " + (n - 1), "bestLine " + n + " 1 = 0");
            Scene.of("estate tx9y9v9;gx9", "drives 1").dues(CHECK, "P22 none OUT", "bestLine " + n + " 0 = " + (n - 1), "bestLine " + n + " 1 = 0");
        }
        Scene two = Scene.of("estate tx2y9v5;tx7y9v5;gx2;gx7");
        two.dues(CHECK, "P22 of several the least", "bestLine 1 0 = 22", "bestLine 2 0 = 12", "bestLine 5 0 = 4", "bestLine 5 1 = 5", "bestLine 6 0 = 27",
            "bestLine 6 1 = 10", "bestLine 7 0 = 17", "bestLine 8 0 = 7");
        // With fewer columns the GUN would still have one to TAKE at 9: there are no columns beyond it.
        Scene beyond = Scene.of("enact y:n<2?5", "law 0", "estate tx1y0v1;tx2y1v1;tx9y9v9;g");
        beyond.dues(CHECK, "P22 just so many columns", "bestLine 9 0 = 8", "bestLine 9 1 = 2", "bestLine 8 0 = 29", "bestLine 8 1 = 10", "bestLine 10 1 = 2");
    }

    // "that (0), how much (1). NONE: no ESTATE, out of bounds, no such what."
    private static void bestLineRefused() {
        for (String n : new String[] {"0", "11", "-1"}) {
            LIVED.refused(CHECK, "P22 out of bounds", "bestLine " + n + " 0", NONE);
            LIVED.refused(CHECK, "P22 out of bounds", "bestLine " + n + " 1", NONE);
        }
        for (String what : new String[] {"2", "-1"}) {
            LIVED.refused(CHECK, "P22 no such what", "bestLine 1 " + what, NONE);
            LIVED.refused(CHECK, "P22 no such what", "bestLine 10 " + what, NONE);
        }
        for (String far : FAR) {
            LIVED.refused(CHECK, "P22", "bestLine " + far + " 0", NONE);
            LIVED.refused(CHECK, "P22", "bestLine 5 " + far, NONE);
        }
    }

    // "the column by which it would have most VALUE (of several the least): that; how much"; "NONE: no such ones."
    private static void bestPeg() {
        for (int skill = 0; skill <= 9; skill++) {
            for (int x = 0; x < 10; x++) {
                int least = skill == 0 ? 0 : Math.max(0, x - (skill - 1) / 2);
                Scene.of("estate tx" + x + "y9v6;gx4s" + skill).dues(CHECK, "P23 THING at " + x, "bestPeg 0 0 = " + least,
                    "bestPeg 0 1 = " + (skill == 0 ? 0 : 6));
            }
        }
        Scene.of("estate tx9y9v0;gx9s1").dues(CHECK, "P23 no VALUE", "bestPeg 0 0 = 0", "bestPeg 0 1 = 0");
        Scene.of("estate tx3y9v5;tx8y9v5;gx9s1").dues(CHECK, "P23 of several the least", "bestPeg 0 0 = 3", "bestPeg 0 1 = 5");
        Scene.of("estate tx3y9v5;gx3s5;gx9s5").dues(CHECK, "P23 the lower number TAKES it", "bestPeg 1 0 = 0", "bestPeg 1 1 = 0", "bestPeg 0 0 = 1");
        Scene.of("estate tx3y9v5;gx9s5;gx3s5").dues(CHECK, "P23 as far, the lower TAKES it", "bestPeg 0 0 = 3", "bestPeg 0 1 = 5");
        Scene.of("estate tx9y9;gx0s1", "wind 3").dues(CHECK, "P23 the last column, for nothing", "bestPeg 0 0 = 9", "rule 1 = 20", "gun 0 0 = 0");
        Scene.of("enact y:d>9?20", "law 0", "estate tx0y9v9;gx5").dues(CHECK, "P23 no column beyond 9", "bestPeg 0 0 = 0", "bestPeg 0 1 = 0");
        Scene.of("enact y:d>8?20", "law 0", "estate tx0y9v9;gx5").dues(CHECK, "P23 the column 9", "bestPeg 0 0 = 9", "bestPeg 0 1 = 9");
        for (String no : new String[] {"3", "-1"}) {
            LIVED.refused(CHECK, "P23 no such GUN", "bestPeg " + no + " 0", NONE);
            LIVED.refused(CHECK, "P23 no such GUN", "bestPeg " + no + " 1", NONE);
        }
        for (String no : new String[] {"2", "-1"}) {
            LIVED.refused(CHECK, "P23 no such what", "bestPeg 0 " + no, NONE);
        }
        for (String far : FAR) {
            LIVED.refused(CHECK, "P23", "bestPeg " + far + " 0", NONE);
            LIVED.refused(CHECK, "P23", "bestPeg 0 " + far, NONE);
        }
    }

    // "by which the GUN with the most VALUE in a DRIVE has the least more than the one with the fewest (of several the least row)"
    private static void dealt() {
        String[] alike = {"0", "1", "12", "123", "1234"};
        for (int guns = 1; guns <= 5; guns++) {
            String all = "g;".repeat(guns);
            Scene.of("estate " + all + "ty9v9").dues(CHECK, "P24 " + guns + " at one PEG", "dealt 0 = " + alike[guns - 1], "dealt 1 = " + (guns == 1 ? 0 : 9));
            Scene.of("estate " + all + "tv0").dues(CHECK, "P24 no VALUE", "dealt 0 = " + alike[guns - 1], "dealt 1 = 0");
        }
        Scene.of("estate gx9s9;ty9v9").dues(CHECK, "P24 one GUN", "dealt 0 = 0", "dealt 1 = 0");
        // Only the GUN 4 reaches: it has nothing at the leftmost PEG, 9 at all others.
        Scene.of("estate gx9s0;gx7s0;gx6s0;gx5s0;gx0s9;tx7y9v9").dues(CHECK, "P24 the last row", "dealt 0 = 40123", "dealt 1 = 0");
        // The PEGS from left to right are 2 and 8.
        Scene.of("estate gx8s1;gx2s1;tx8y9v2;tx2y9v3").dues(CHECK, "P24 as much more both ways", "dealt 0 = 1", "dealt 1 = 1");
        // At 8 the GUN 0 has 9, at 2 it has 3; the GUN 1 has 9 at 2, as it reaches 3, too.
        Scene.of("estate gx8s1;gx2s9;tx8y9v9;tx2y9v3;tx3y9v6").dues(CHECK, "P24 the other way", "dealt 0 = 10", "dealt 1 = 0");
        for (String no : new String[] {"2", "-1"}) {
            LIVED.refused(CHECK, "P24 no such what", "dealt " + no, NONE);
        }
        for (String far : FAR) {
            LIVED.refused(CHECK, "P24 no such what", "dealt " + far, NONE);
        }
    }

    // "SEEN (10 at most): with a WIND (0 .. 8) a THING came OVER a column (0 .. 9)"; "NONE: no such THING, out of bounds, there are ten."
    private static void seen() {
        Scene at = Scene.of("estate tx2y3;tx0y9;g", "wind 3", "image", "wind 5");
        String[] wrong = {"seen 2 0 0 true", "seen -1 0 0 true", "seen 0 9 0 true", "seen 0 -1 0 true", "seen 0 0 10 true", "seen 0 0 -1 true",
            "seen 2 9 10 false", "seen -1 -1 -1 false"};
        for (String call : wrong) {
            at.refused(CHECK, "P25", call, NONE);
        }
        for (String far : FAR) {
            at.refused(CHECK, "P25", "seen " + far + " 0 0 true", NONE);
            at.refused(CHECK, "P25", "seen 0 " + far + " 0 true", NONE);
            at.refused(CHECK, "P25", "seen 0 0 " + far + " true", NONE);
        }
        at.dues(CHECK, "P25 the last ones", "seen 0 0 0 false = 1", "seen 1 8 9 false = 2", "seen 0 8 0 true = 3", "seen 1 0 9 true = 4");
        for (int many = 0; many < 10; many++) {
            at.due(CHECK, "P25 behind " + many, "seen 0 4 3 false", "" + (many + 1));
            at.due(CHECK, "P38 SEEN", "count 9", "" + many);
            at = at.then("seen 0 4 3 false");
        }
        at.refused(CHECK, "P25 there are ten", "seen 0 4 3 false", NONE);
        at.refused(CHECK, "P25 there are ten", "seen 1 0 0 true", NONE);
        at.dues(CHECK, "P25 ten stay", "undo = 1", "count 9 = 10", "drives 1 = 1", "back = 0", "count 9 = 10", "lay 0 -1 = 9", "estate t;g = 1",
            "count 9 = 0", "seen 0 0 0 true = 1");
    }

    // "LAY of a THING: columns (0 .. 9) of its own by which all SEEN of it is so: how many, the i-th (rising)"; "NONE: no such one, no such THING."
    private static void lay() {
        Scene none = Scene.of("estate tx2y3;tx0y9;g", "wind 3", "image", "wind 5");
        none.due(CHECK, "P26 nothing SEEN", "lay 0 -1", "10");
        for (int i = 0; i < 10; i++) {
            none.due(CHECK, "P26 nothing SEEN", "lay 1 " + i, "" + i);
            Scene one = none.then("seen 1 8 " + i + " true");
            one.dues(CHECK, "P26 one", "lay 1 -1 = 1", "lay 1 0 = " + i, "lay 1 1 = -1", "lay 0 -1 = 10");
            Scene others = none.then("seen 1 0 " + i + " false");
            others.dues(CHECK, "P26 all but one", "lay 1 -1 = 9", "lay 1 0 = " + (i == 0 ? 1 : 0), "lay 1 8 = " + (i == 9 ? 8 : 9), "lay 1 9 = -1");
            one.then("seen 1 8 " + i + " false").dues(CHECK, "P26 so and not so", "lay 1 -1 = 0", "lay 1 0 = -1", "ask 1 0 = -1");
        }
        for (String i : new String[] {"10", "-2", "LEAST", "MOST"}) {
            none.refused(CHECK, "P26 no such one", "lay 0 " + i, NONE);
        }
        for (String thing : new String[] {"2", "-1", "7", "LEAST", "MOST"}) {
            none.refused(CHECK, "P26 no such THING", "lay " + thing + " -1", NONE);
            none.refused(CHECK, "P26 no such THING", "lay " + thing + " 0", NONE);
        }
    }

    // the same: one that is LOST does not come OVER a column
    private static void layOfLost() {
        Scene left = Scene.of("estate ty0f0;g");
        left.then("seen 0 4 0 true").dues(CHECK, "P26 from 9 alone", "lay 0 -1 = 1", "lay 0 0 = 9");
        left.then("seen 0 4 0 false").dues(CHECK, "P26 all the others are LOST", "lay 0 -1 = 9", "lay 0 8 = 8");
        left.then("seen 0 4 1 true").dues(CHECK, "P26 from 10, which is none", "lay 0 -1 = 0");
        left.then("seen 0 0 0 true").dues(CHECK, "P26 from 15, which is none", "lay 0 -1 = 0");
        left.then("seen 0 8 5 true").dues(CHECK, "P26 from 8", "lay 0 -1 = 1", "lay 0 0 = 8");
        Scene right = Scene.of("estate ty0f8;g");
        right.then("seen 0 4 9 true").dues(CHECK, "P26 from 0 alone", "lay 0 -1 = 1", "lay 0 0 = 0");
        right.then("seen 0 4 9 false").dues(CHECK, "P26 all the others are LOST", "lay 0 -1 = 9", "lay 0 0 = 1");
        right.then("seen 0 4 8 true").dues(CHECK, "P26 from -1, which is none", "lay 0 -1 = 0");
    }

    // "the WIND for which OVER it and not are least apart in number among these (of several the least)"; "NONE: nothing fits, no such THING, out of bounds."
    private static void ask() {
        // Six rows above: a step of the WIND is a column. OVER 0 comes one of 0 .. 4 with the WIND 4 .. 0, none with 5 ..
        Scene six = Scene.of("estate tx2y3;g", "wind 3", "image", "wind 5");
        int[] least = {0, 0, 0, 0, 0, 0, 1, 2, 3, 4};
        for (int column = 0; column < 10; column++) {
            six.due(CHECK, "P27 nothing SEEN", "ask 0 " + column, "" + least[column]);
        }
        six.then("seen 0 4 9 true").dues(CHECK, "P27 from 9 alone: all as far apart", "ask 0 9 = 0", "ask 0 5 = 0", "ask 0 0 = 0");
        Scene.of("estate ty9;g").dues(CHECK, "P27 no WIND tells", "ask 0 0 = 0", "ask 0 9 = 0");
        Scene two = six;
        for (int column : new int[] {0, 1, 2, 3, 4, 5, 6, 7}) {
            two = two.then("seen 0 4 " + column + " false");
        }
        two.dues(CHECK, "P27 8 or 9", "lay 0 -1 = 2", "ask 0 9 = 4", "ask 0 8 = 3", "ask 0 4 = 0", "ask 0 5 = 0", "ask 0 3 = 0", "ask 0 6 = 1");
        Scene low = six;
        for (int column = 2; column < 10; column++) {
            low = low.then("seen 0 4 " + column + " false");
        }
        low.dues(CHECK, "P27 0 or 1", "lay 0 0 = 0", "lay 0 1 = 1", "ask 0 1 = 4", "ask 0 0 = 3", "ask 0 4 = 7", "ask 0 5 = 8", "ask 0 6 = 0");
        two.then("seen 0 4 8 false", "seen 0 4 9 false").dues(CHECK, "P27 nothing fits", "lay 0 -1 = 0", "ask 0 0 = -1", "ask 0 9 = -1");
        for (String column : new String[] {"10", "-1", "LEAST", "MOST"}) {
            six.refused(CHECK, "P27 out of bounds", "ask 0 " + column, NONE);
        }
        for (String thing : new String[] {"1", "-1", "LEAST", "MOST"}) {
            six.refused(CHECK, "P27 no such THING", "ask " + thing + " 0", NONE);
        }
    }

    // "the row (0; no such THINGS: NONE), how much (1)"; "THINGS that would be LET BY in a DRIVE now but not LOST"
    private static void claimOfNone() {
        String[] none = {"tx5y9;gx5", "tx9y0f8;gx9", "tx0y0f0;gx0", "sl6;tx5y9;gx0", "sr4;tx5y9;gx0", "tx5y9;tx9y0f8;gx5"};
        for (String text : none) {
            Scene.of("estate " + text).dues(CHECK, "P28 " + text, "claim 0 = -1", "claim 1 = 0");
        }
        Scene taken = Scene.of("estate tx5y9;gx5", "drives 1", "move 0 0");
        taken.dues(CHECK, "P28 TAKEN already", "claim 0 = -1", "claim 1 = 0", "putOut 0 = 16", "claim 0 = 0", "claim 1 = 0");
        Scene.of("estate tx9y9;tx9y0f8;tx8y9;gx0;gx1").dues(CHECK, "P28 the LOST one has no digit", "claim 0 = 1", "claim 1 = 0");
    }

    // "each by a GUN that claims none yet (.. 0 or more) or by nobody: rows (digits of GUNS, 9 nobody; the first the highest) .. (of several the least row)"
    private static void claimRows() {
        String[][] rows = {{"0", "9", "99", "999", "9999", "99999", "999999"}, {"0", "1", "19", "199", "1999", "19999", "199999"},
            {"0", "1", "12", "129", "1299", "12999", "129999"}, {"0", "1", "12", "123", "1239", "12399", "123999"},
            {"0", "1", "12", "123", "1234", "12349", "123499"}};
        for (int guns = 1; guns <= 5; guns++) {
            for (int things = 1; things <= 7; things++) {
                String text = "tx9y9;".repeat(things) + "gx0;".repeat(guns - 1) + "gx0";
                Scene.of("estate " + text).dues(CHECK, "P28 " + things + " by " + guns, "claim 0 = " + rows[guns - 1][things - 1], "claim 1 = 0");
            }
        }
        // The THINGS of VALUE 1 are LET BY, as n is still 0; then each GUN TAKES as many of VALUE 9 as its SKILL says.
        Scene law = Scene.of("enact y:v=9&n<s?20-n;y:v=9?0;y:n*4-d", "law 0");
        law.then("estate tx0y0v1;tx9y0v1;tx5y9v9;gx0s0;gx9s1").dues(CHECK, "P28 who TOOK one", "claim 0 = 1", "claim 1 = 4");
        law.then("estate tx0y0v1;tx9y0v1;tx5y9v9;gx9s1").dues(CHECK, "P28 by nobody", "claim 0 = 90", "claim 1 = 4");
        law.then("estate tx0y0v1;tx9y0v1;tx5y9v9;tx5y9v9;tx5y9v9;gx9s3").dues(CHECK, "P28 the better one", "claim 0 = 90", "claim 1 = 12");
        law.then("estate tx4y0v1;tx6y0v1;tx5y9v9;gx5s1").dues(CHECK, "P28 of several the least row", "claim 0 = 9", "claim 1 = 3");
        String two = ";tx5y9v9;tx5y9v9;";
        law.then("estate tx0y0v1;tx5y0v1;tx9y0v1" + two + "gx0s1;gx9s1").dues(CHECK, "P28 nobody between", "claim 0 = 91", "claim 1 = 8");
        law.then("estate tx0y0v1;tx3y0v1" + two + "gx0s1;gx1s1").dues(CHECK, "P28 both reach both", "claim 0 = 1", "claim 1 = 6");
        law.then("estate tx3y0v1;tx0y0v1" + two + "gx0s1;gx1s1").dues(CHECK, "P28 both reach both", "claim 0 = 10", "claim 1 = 6");
        law.then("estate tx1y0v1;tx1y0v1" + two + "gx0s1;gx2s1").dues(CHECK, "P28 as much either way", "claim 0 = 1", "claim 1 = 6");
        law.then("estate tx2y0v1;tx0y0v1;tx1y0v1;tx5y9v9" + two + "gx0s1;gx1s1;gx2s1").dues(CHECK, "P28 each its nearest", "claim 0 = 201", "claim 1 = 12");
        law.then("estate tx1y0v1;tx1y0v1;tx0y0v1" + two + "gx0s1;gx1s1").dues(CHECK, "P28 the second left to nobody", "claim 0 = 190", "claim 1 = 8");
    }

    private static void claimRefused() {
        for (String no : new String[] {"2", "-1"}) {
            LIVED.refused(CHECK, "P28 no such what", "claim " + no, NONE);
        }
        for (String far : FAR) {
            LIVED.refused(CHECK, "P28 no such what", "claim " + far, NONE);
        }
    }

    // "GAME: what the one has (0), the other (1). HIDDEN: no such ones, alike, out of bounds."
    private static void game() {
        String[] wrong = {"0 0 0 0 0", "2 2 0 0 0", "3 0 0 0 0", "0 3 0 0 0", "-1 0 0 0 0", "0 -1 0 0 0", "3 3 0 0 0", "0 1 4 0 0", "0 1 0 4 0",
            "0 1 -1 0 0", "0 1 0 -1 0", "0 1 0 0 2", "0 1 0 0 -1", "0 1 4 4 1", "-1 -1 -1 -1 -1"};
        for (String row : wrong) {
            LIVED.refused(CHECK, "P29", "game " + row, HIDDEN);
        }
        for (String far : FAR) {
            LIVED.refused(CHECK, "P29", "game " + far + " 0 0 0 0", HIDDEN);
            LIVED.refused(CHECK, "P29", "game 0 " + far + " 0 0 0", HIDDEN);
            LIVED.refused(CHECK, "P29", "game 0 1 " + far + " 0 0", HIDDEN);
            LIVED.refused(CHECK, "P29", "game 0 1 0 " + far + " 0", HIDDEN);
            LIVED.refused(CHECK, "P29", "game 0 1 0 0 " + far, HIDDEN);
        }
        Scene nothing = Scene.of("estate tv0;gx5;gx5;gx5");
        for (int x = 0; x < 4; x++) {
            for (int y = 0; y < 4; y++) {
                nothing.dues(CHECK, "P29 no VALUE", "game 0 2 " + x + " " + y + " 0 = " + -x, "game 0 2 " + x + " " + y + " 1 = " + -y);
            }
        }
    }

    // "by how many columns each moves its PEG to the right (not beyond 9)"; "less x (y)"
    private static void gameAtTheEdge() {
        for (int peg = 0; peg < 10; peg++) {
            for (int step = 0; step < 4; step++) {
                for (int x = 0; x < 10; x++) {
                    int want = (x == Math.min(9, peg + step) ? 8 : 0) - step;
                    Scene at = Scene.of("estate tx" + x + "y9v8;gx" + peg + "s1;gx0s0");
                    at.dues(CHECK, "P29 PEG " + peg + " THING " + x, "game 0 1 " + step + " 0 0 = " + want, "game 1 0 0 " + step + " 1 = " + want,
                        "game 0 1 " + step + " 3 1 = -3", "rule 1 = 20", "gun 0 0 = " + peg);
                }
            }
        }
    }

    // "RESTS: 10 times x and y by which neither has more by another of its own: how many, the i-th (rising)"; "NONE: no such one, no such GUNS, alike."
    private static void rests() {
        Scene.of("estate tv0;gx9;gx9").dues(CHECK, "P30 both stay", "rests 0 1 -1 = 1", "rests 0 1 0 = 0", "rests 0 1 1 = -1");
        // A THING of VALUE x at x columns to the right is worth as much as staying: neither has more by another.
        Scene even = Scene.of("estate tx3y9v3;tx9y9v1;gx0s1;gx8s1");
        even.dues(CHECK, "P30 as much either way", "rests 0 1 -1 = 4", "rests 0 1 0 = 0", "rests 0 1 1 = 1", "rests 0 1 2 = 30", "rests 0 1 3 = 31",
            "rests 0 1 4 = -1", "rests 1 0 1 = 3", "rests 1 0 2 = 10", "rests 1 0 3 = 13");
        Scene.of("estate tx3y9v4;gx0s1;gx9s0").dues(CHECK, "P30 three steps", "rests 0 1 -1 = 1", "rests 0 1 0 = 30", "rests 1 0 0 = 3");
        // PEGS at 9 cannot be moved: a step only costs.
        Scene.of("estate tx9y9v9;gx9s1;gx9s1").dues(CHECK, "P30 at the edge", "rests 0 1 -1 = 1", "rests 0 1 0 = 0");
        // While the GUN 0 stays, the other has most at 3; at 3 the GUN 0 TAKES it, and the other goes on to 4.
        Scene.of("estate tx3y9v9;tx4y9v4;gx0s1;gx2s1").dues(CHECK, "P30 the other makes way", "rests 0 1 -1 = 1", "rests 0 1 0 = 32", "rests 1 0 0 = 23");
        // Both reach 4; who stands nearer has it, and each step costs: one steps past the other, till it is worth no more.
        Scene none = Scene.of("estate tx4y9v4;gx0s7;gx2s7");
        none.dues(CHECK, "P30 none", "rests 0 1 -1 = 0", "rests 0 1 0 = -1");
        for (String i : new String[] {"-2", "16", "LEAST", "MOST"}) {
            even.refused(CHECK, "P30 no such one", "rests 0 1 " + i, NONE);
        }
        for (String row : new String[] {"0 0", "1 1", "2 0", "0 2", "-1 0", "0 -1", "2 2", "LEAST 0", "0 MOST"}) {
            even.refused(CHECK, "P30 no such GUNS, alike", "rests " + row + " -1", NONE);
            even.refused(CHECK, "P30 no such GUNS, alike", "rests " + row + " 0", NONE);
        }
    }

    // "ODDS of a GUN for a chance (0 .. 100)"; "NONE: no such GUN, out of bounds."
    private static void oddsOfOne() {
        for (int chance = 0; chance <= 100; chance++) {
            Scene.of("estate tx5y9;gx5s1;gx6s1;gx7s1").dues(CHECK, "P31", "odds 0 " + chance + " = " + (100 - chance) * 10000000L,
                "odds 1 " + chance + " = " + chance * 10000000L, "odds 2 " + chance + " = 0");
        }
        for (String chance : new String[] {"101", "-1", "LEAST", "MOST"}) {
            LIVED.refused(CHECK, "P31 out of bounds", "odds 0 " + chance, NONE);
        }
        for (String gun : new String[] {"3", "-1", "LEAST", "MOST"}) {
            LIVED.refused(CHECK, "P31 no such GUN", "odds " + gun + " 50", NONE);
        }
        Scene.of("estate sl6;tx5y9;gx5").due(CHECK, "P31 none RISES", "odds 0 50", "0");
        Scene.of("estate tx5y9;gx5", "drives 1").due(CHECK, "P31 none is OUT", "odds 0 50", "0");
    }

    // "(so that one that would be LOST one column left of 0 comes OVER 0, one at 9 is LOST)"
    private static void oddsAtTheEdges() {
        Scene.of("estate tx0y8f0;gx0s1").dues(CHECK, "P31 one left of 0", "odds 0 0 = 0", "odds 0 30 = 300000000", "odds 0 100 = 1000000000");
        Scene.of("estate tx0y7f0;gx0s9").dues(CHECK, "P31 two left of 0", "odds 0 0 = 0", "odds 0 30 = 0", "odds 0 100 = 0");
        Scene.of("estate tx9y9;gx9s9").dues(CHECK, "P31 at 9", "odds 0 0 = 1000000000", "odds 0 30 = 700000000", "odds 0 100 = 0");
        Scene.of("estate tx8y9;gx9s1").dues(CHECK, "P31 at 8", "odds 0 0 = 0", "odds 0 30 = 300000000", "odds 0 100 = 1000000000");
        Scene.of("estate tx9y8f8;gx9s9").dues(CHECK, "P31 one right of 9", "odds 0 0 = 0", "odds 0 30 = 0", "odds 0 100 = 0");
        Scene.of("estate tx9y9;gx9", "enact y:20", "law 0").dues(CHECK, "P31 LOST for all LAWS", "odds 0 100 = 0");
        Scene.of("estate sr5;tx5y9;gx6s1").due(CHECK, "P31 beyond the LINE by the gust alone", "odds 0 100", "1000000000");
    }

    // "of 10 to the 9 parts those by which it TAKES one or more (of each part chance 100ths, cut, do so)"
    private static void oddsCut() {
        long[] allDrift = {10000000, 100000, 1000, 10, 0, 0, 0};
        long[] noneDrifts = {10000000, 100000, 1000, 10, 1, 1, 1};
        for (int things = 1; things <= 7; things++) {
            String text = "tx5y9;".repeat(things);
            Scene.of("estate " + text + "gx5s1").due(CHECK, "P31 " + things + " by 1 of 100", "odds 0 1", "" + (1000000000 - allDrift[things - 1]));
            Scene.of("estate " + text + "gx6s1").due(CHECK, "P31 " + things + " by 99 of 100", "odds 0 99", "" + (1000000000 - noneDrifts[things - 1]));
            Scene.of("estate " + text + "gx6s1").dues(CHECK, "P31 surely", "odds 0 0 = 0", "odds 0 100 = 1000000000");
            Scene.of("estate " + text + "gx5s9").due(CHECK, "P31 either way", "odds 0 37", "1000000000");
        }
        // Six that nobody reaches part the parts; all of them come together again in the seventh.
        String six = "tx0y0;".repeat(6);
        for (int chance : new int[] {0, 1, 33, 50, 77, 99, 100}) {
            Scene.of("estate " + six + "tx8y9;gx8s3;gx9s0").dues(CHECK, "P31 no part goes", "odds 0 " + chance + " = 1000000000", "odds 1 " + chance + " = 0");
        }
        // The GUN 0 TAKES the first for sure; the second goes to the GUN 1 if it drifts.
        Scene.of("estate tx5y0;tx7y9;gx5s3;gx8s1").dues(CHECK, "P31 behind another GUN", "odds 0 25 = 1000000000", "odds 1 25 = 250000000");
    }

    // "SHARES of c (0 .. 999) by BAGS: for a GUN c times its by all, cut (none: 0)"; "NONE: no such GUN, out of bounds."
    private static void shares() {
        Scene none = Scene.of("estate tx0y9v1;tx9y9v2;gx0;gx9;gx5", "wind 3", "image");
        none.dues(CHECK, "P32 none", "shares 0 0 = 0", "shares 0 999 = 0", "shares 2 999 = 0");
        none.then("drives 1").dues(CHECK, "P32 1 and 2 of 3", "shares 0 0 = 0", "shares 0 1 = 0", "shares 0 2 = 0", "shares 0 3 = 1", "shares 1 1 = 0",
            "shares 1 2 = 1", "shares 1 3 = 2", "shares 0 999 = 333", "shares 1 999 = 666", "shares 0 998 = 332", "shares 1 998 = 665", "shares 2 999 = 0");
        Scene.of("estate tx0y9v1;gx0;gx9", "drives 1").dues(CHECK, "P32 1 of 1", "shares 0 999 = 999", "shares 0 1 = 1", "shares 0 0 = 0", "shares 1 999 = 0");
        for (Scene at : new Scene[] {none, none.then("drives 1")}) {
            for (String c : new String[] {"1000", "-1", "LEAST", "MOST"}) {
                at.refused(CHECK, "P32 out of bounds", "shares 0 " + c, NONE);
            }
            for (String gun : new String[] {"3", "-1", "LEAST", "MOST"}) {
                at.refused(CHECK, "P32 no such GUN", "shares " + gun + " 5", NONE);
            }
        }
    }

    // "RISING: THINGS (bits) that RISE in a MINUTE"; "NONE: no such MINUTE, no ESTATE."
    private static void rising() {
        Scene all = Scene.of("estate tx0;tx1;tx2;tx3;tx4;tx9;tx5y9;g", "wind 3", "image");
        all.dues(CHECK, "P33", "rising 0 = 63", "rising 9 = 64", "rising 5 = 0", "rising 8 = 0", "rising 1 = 0");
        Scene.of("estate t;t;t;t;t;t;t;g").due(CHECK, "P33 all", "rising 0", "127");
        for (String minute : new String[] {"10", "-1", "LEAST", "MOST"}) {
            all.refused(CHECK, "P33 no such MINUTE", "rising " + minute, NONE);
        }
    }

    // "LAST: the THING that RISES last of all in a DRIVE now (of one MINUTE the highest)" "NONE: none RISES";
    // "FINEST: the THING that is OUT with the most VALUE" "NONE: none is OUT" "(of several the lowest, all)"
    private static void lastAndFinest() {
        Scene.of("estate ty9;ty9;ty8;g").due(CHECK, "P34 LAST", "most 0", "1");
        Scene.of("estate ty0;ty0;g").due(CHECK, "P34 LAST", "most 0", "1");
        Scene.of("estate ty9f0;ty0;g").due(CHECK, "P34 LAST", "most 0", "0");
        Scene.of("estate tx9y0f8;g").due(CHECK, "P34 LAST, a LOST one", "most 0", "0");
        Scene.of("estate sl1;tx0y9;tx1y0;g").due(CHECK, "P34 LAST within the LINE", "most 0", "1");
        Scene.of("estate sl1;tx0y9;g").due(CHECK, "P34 none RISES", "most 0", NONE);
        Scene.of("estate tv8;tv9;tv9;g").due(CHECK, "P34 FINEST", "most 1", "1");
        Scene.of("estate tv0;tv0;g").due(CHECK, "P34 FINEST of no VALUE", "most 1", "0");
        Scene.of("estate tv0;tv1;tv2;tv3;tv4;tv5;tv6;g").dues(CHECK, "P34 FINEST, the last of seven", "most 1 = 6", "most 0 = 6", "most 6 = 21");
        Scene.of("estate sl1;tx0v9;tx1v8;g").due(CHECK, "P34 FINEST, beyond the LINE too", "most 1", "0");
        Scene two = Scene.of("estate tx0y9v9;tx9y9v0;gx0;gx9s0", "drives 1");
        two.dues(CHECK, "P34 FINEST of those OUT", "most 1 = 1", "most 0 = 1", "move 0 9 = 14", "drives 1 = 2", "most 1 = -1", "most 0 = -1", "most 6 = 0");
    }

    // "BUSIEST: the column OVER which most come in a DRIVE now" "NONE: nothing comes over" "(of several the lowest, all)"
    private static void busiest() {
        for (int x = 0; x < 10; x++) {
            Scene.of("estate tx" + x + "y9;g").due(CHECK, "P34 BUSIEST", "most 2", "" + x);
        }
        Scene.of("estate tx9y9;tx0y9;tx9y9;g").due(CHECK, "P34 BUSIEST", "most 2", "9");
        Scene.of("estate tx9y9;tx3y9;g").due(CHECK, "P34 BUSIEST of several", "most 2", "3");
        Scene.of("estate tx9y0f8;tx0y0f0;g").due(CHECK, "P34 all LOST", "most 2", NONE);
        Scene.of("estate tx9y0f8;tx9y0f8;tx4y9;g").due(CHECK, "P34 LOST ones do not count", "most 2", "4");
        Scene.of("estate tx9y8f8;tx9y8f8;tx4y9;g").due(CHECK, "P34 nor those just beyond 9", "most 2", "4");
        Scene.of("estate tx0y8f0;tx0y8f0;tx4y9;g").due(CHECK, "P34 nor those just left of 0", "most 2", "4");
        Scene.of("estate sr4;tx5y9;tx5y9;tx4y9;g").due(CHECK, "P34 those beyond the LINE do not count", "most 2", "4");
        Scene.of("estate sr4;tx5y9;g").due(CHECK, "P34 none RISES", "most 2", NONE);
        Scene.of("estate tx5y9;gx5", "drives 1").due(CHECK, "P34 none is OUT", "most 2", NONE);
    }

    // "RICHEST: the GUN with the most in its BAG, KEENEST with the most SKILL (of several the lowest, all)"
    private static void richestAndKeenest() {
        Scene.of("estate t;g;g").dues(CHECK, "P34 alike", "most 3 = 0", "most 4 = 0");
        Scene.of("estate tx0y9;tx5y9;tx9y9;gx5s0;gx0;gx9", "drives 1").due(CHECK, "P34 RICHEST of several", "most 3", "1");
        Scene.of("estate tx9y9v1;gx0;gx0;gx0;gx0;gx9", "drives 1").due(CHECK, "P34 RICHEST, the last", "most 3", "4");
        Scene.of("estate t;gs0;gs9;gs9").due(CHECK, "P34 KEENEST of several", "most 4", "1");
        Scene.of("estate t;gs8;gs8;gs8;gs8;gs9").due(CHECK, "P34 KEENEST, the last", "most 4", "4");
        Scene.of("estate t;gs0").dues(CHECK, "P34 one GUN", "most 3 = 0", "most 4 = 0");
    }

    // "GAP: the most columns between two PEGS that are next to one another (one GUN: 0)"
    private static void gap() {
        String[][] rows = {{"gx5", "0"}, {"gx0", "0"}, {"gx9", "0"}, {"gx0;gx9", "9"}, {"gx9;gx0", "9"}, {"gx4;gx4", "0"}, {"gx4;gx5", "1"},
            {"gx0;gx9;gx4", "5"}, {"gx9;gx5;gx0", "5"}, {"gx0;gx3;gx9", "6"}, {"gx9;gx9;gx9;gx9;gx0", "9"}, {"gx8;gx6;gx4;gx2;gx0", "2"},
            {"gx0;gx0;gx0;gx0;gx0", "0"}};
        for (String[] row : rows) {
            Scene.of("estate t;" + row[0]).due(CHECK, "P34 GAP " + row[0], "most 5", row[1]);
        }
    }

    // "WHOLE: VALUE of all that is OUT."; "VALUE TAKEN in a DRIVE now (7), how many are LET BY in one (8)"
    private static void wholeAndLetBy() {
        String seven = "tx0y9v9;".repeat(7);
        Scene.of("estate " + seven + "gx0").dues(CHECK, "P34 all", "most 6 = 63", "most 7 = 63", "most 8 = 0", "drives 1 = 1", "most 6 = 0", "most 7 = 0", "most 8 = 0");
        Scene.of("estate " + seven + "gx9").dues(CHECK, "P34 nobody reaches", "most 6 = 63", "most 7 = 0", "most 8 = 7");
        Scene.of("estate sl1;" + seven + "gx0").dues(CHECK, "P34 beyond the LINE", "most 6 = 63", "most 7 = 0", "most 8 = 0");
        Scene.of("estate tx9y0f8;gx9").dues(CHECK, "P34 a LOST one is LET BY", "most 6 = 3", "most 7 = 0", "most 8 = 1");
        Scene.of("estate tx9y0f8;gx9").dues(CHECK, "P34 asked at once", "most 8 = 1", "bestLine 1 1 = 0", "most 8 = 1");
        Scene.of("estate tx0y9v9;gx0").dues(CHECK, "P34 asked at once", "most 7 = 9", "bestPeg 0 1 = 9", "most 7 = 9");
    }

    // "NONE: no ESTATE, no such what."
    private static void mostRefused() {
        for (String no : new String[] {"9", "-1", "-2", "10", "LEAST", "MOST"}) {
            LIVED.refused(CHECK, "P34 no such what", "most " + no, NONE);
        }
    }

    // "AHEAD for n (1 .. 9,999): in how many DRIVES (0 .. 999) all BAGS together would be n or more"; "NONE: not within 999, no ESTATE, out of bounds."
    private static void ahead() {
        Scene one = Scene.of("estate tx0y9v1;gx0", "wind 3", "image");
        one.dues(CHECK, "P35 one each time", "ahead 1 = 1", "ahead 2 = 2", "ahead 998 = 998", "ahead 999 = 999", "ahead 1000 = -1", "ahead 9999 = -1");
        for (int value = 1; value <= 9; value++) {
            int far = 999 * value;
            Scene.of("estate tx0y9v" + value + ";gx0").dues(CHECK, "P35 " + value + " each time", "ahead " + value + " = 1", "ahead " + (value + 1) + " = 2",
                "ahead " + far + " = 999", "ahead " + (far + 1) + " = -1");
        }
        Scene.of("estate tx0y9v9;tx0y9v1;gx0").dues(CHECK, "P35 10 each time", "ahead 9990 = 999", "ahead 9991 = -1", "ahead 9999 = -1", "ahead 9981 = 999");
        Scene.of("estate tx0y9v9;tx0y9v2;gx0").dues(CHECK, "P35 11 each time", "ahead 9999 = 909", "ahead 10000 = -1", "ahead 0 = -1", "ahead 9988 = 908", "ahead 9989 = 909");
        Scene.of("estate tx0y9v0;gx0").dues(CHECK, "P35 nothing each time", "ahead 1 = -1", "ahead 9999 = -1");
        one.then("drives 1").dues(CHECK, "P35 it is so", "ahead 1 = 0", "ahead 2 = -1");
        one.then("drives 1", "putOut 0").dues(CHECK, "P35 one and one each time", "ahead 1 = 0", "ahead 2 = 1", "ahead 1000 = 999", "ahead 1001 = -1");
        for (String n : new String[] {"0", "-1", "10000", "LEAST", "MOST"}) {
            one.refused(CHECK, "P35 out of bounds", "ahead " + n, NONE);
            one.then("drives 1").refused(CHECK, "P35 out of bounds", "ahead " + n, NONE);
        }
        Scene last = one.times(16, "drives 60").then("drives 39", "putOut 0");
        last.dues(CHECK, "P35 the DAY does not matter", "count 5 = 999", "ahead 1000 = 999", "ahead 2 = 1");
    }
}
