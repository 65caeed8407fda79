import java.math.BigInteger;

/**
 * Promises 6 to 20 and 36 to 38, and the second and fourth part of "Terms", at their bounds: above each test stands the
 * sentence that it holds the class against.
 */
public final class PlayBoundsTest {
    private static final Check CHECK = new Check();
    private static final String[] FAR = {"LEAST", "-1000000", "-2", "1000", "1073741824", "MOST"};

    public static void main(String[] args) {
        numbersHeld();
        divisions();
        comparisons();
        worth();
        over();
        lost();
        reachOfSkill();
        reachHeld();
        risingWithinTheLine();
        takenInOrder();
        lookedAt();
        drives();
        lastDay();
        coinsAtMost();
        bagsAtMost();
        line();
        move();
        practise();
        wind();
        putOut();
        ofSeveralTheFirst();
        lots();
        lotsDrawn();
        putOutByDraw();
        years();
        status();
        undoOneByOne();
        undoForty();
        undoneWithLog();
        logOfSixty();
        image();
        imageKeeps();
        imageKeepsNotMore();
        imageOfLog();
        counts();
        CHECK.finish("PlayBoundsTest");
    }

    /** VALUE 7, KIND 2, MINUTE 6, two columns away, SKILL 8. */
    private static void holds(String condition, boolean want) {
        Scene.of("estate tx5y6f4v7k2;gx3s8", "enact y:" + condition + "?1", "law 0").due(CHECK, condition, "taker 0", want ? "0" : "-1");
    }

    // "Behind each sign numbers are within -1,000,000 .. 1,000,000"
    private static void numbersHeld() {
        holds("1000*1000=9999*100+100", true);
        holds("1000*1000-1=9999*100+99", true);
        holds("1000*1000=1000*1000+1", true);
        holds("1000*1000=1000*1000-1", false);
        holds("1000*1000=9999*9999", true);
        holds("1000*1000=1000*1001", true);
        holds("1000*1000+9999-9999*100=100", true);
        holds("0-1000*1000=0-1000*1000-1", true);
        holds("0-1000*1000=1-1000*1000", false);
        holds("0-1000*1000<1-1000*1000", true);
        holds("[0-1000]*1001=0-1000*1000", true);
        holds("[0-9999]*9999=0-1000*1000", true);
        holds("[0-9999]*9999+1=1-1000*1000", true);
        holds("0-1000*1000-9999+9999=9999-1000*1000", true);
        holds("[0-9999]*[0-9999]=1000*1000", true);
        holds("9999*9999*[0-1]=0-1000*1000", true);
        holds("9999*9999/1000=1000", true);
        holds("9999*9999*9999*9999*9999*9999*9999=1000*1000", true);
        holds("9999*9999*0=0", true);
        holds("v*9999*9999-1000*1000=0", true);
    }

    // "/ cuts towards 0, by 0 gives 0"
    private static void divisions() {
        holds("7/2=3", true);
        holds("[0-7]/2=0-3", true);
        holds("7/[0-2]=0-3", true);
        holds("[0-7]/[0-2]=3", true);
        holds("1/2=0", true);
        holds("[0-1]/2=0", true);
        holds("0/5=0", true);
        holds("9999/9999=1", true);
        holds("5/0=0", true);
        holds("0/0=0", true);
        holds("[0-5]/0=0", true);
        holds("5/[v-7]=0", true);
        holds("9/0*9=0", true);
        holds("9*9/0+1=1", true);
        holds("v/n=0", true);
        holds("8/3*3=6", true);
        holds("0-1000*1000/[0-1]=1000*1000", true);
    }

    // "SUM, one of = < >, SUM"; "! UNIT"
    private static void comparisons() {
        String[] signs = {"=", "<", ">"};
        boolean[][] want = {{false, true, false}, {false, false, true}, {true, false, false}};
        for (int i = 0; i < 3; i++) {
            for (int j = 0; j < 3; j++) {
                String unit = "v" + signs[i] + (6 + j);
                holds(unit, want[i][j]);
                holds("!" + unit, !want[i][j]);
                holds("!!" + unit, want[i][j]);
                holds("!(" + unit + ")", !want[i][j]);
                holds(unit + "&k=2", want[i][j]);
                holds("k=3|" + unit, want[i][j]);
                holds("!" + unit + "|!" + unit, !want[i][j]);
            }
        }
    }

    // "WORTH: the SUM of the first CLAUSE whose CONDITION holds (or has none), 0 without."
    private static void worth() {
        String[][] rows = {{"y:v=6?20", "-1"}, {"y:v=6?20;y:k=1?20", "-1"}, {"y:v=6?20;y:k=2?1", "0"}, {"y:v=7?0;y:20", "-1"},
            {"y:v=7?20;y:0", "0"}, {"y:0;y:20", "-1"}, {"y:20;y:0", "0"}, {"y:v=6?0;y:20;y:0", "0"}, {"y:v=7?0;y:v=7?20", "-1"},
            {"y:v=7?0-5;y:20", "-1"}};
        for (String[] row : rows) {
            Scene.of("estate tx5y6f4v7k2;gx3s8", "enact " + row[0], "law 0").due(CHECK, row[0], "taker 0", row[1]);
        }
    }

    /** By how many columns a WAY, a WIND that is 1 .. 4 off drifts, row by row, cut. */
    private static final String[] BY_WAY = {"0000000000", "2211110000", "4433221100", "6654332100", "9876543210"};
    private static final String[] BY_WIND = {"0000000000", "1111000000", "3222111000", "4433221100", "6544322100"};

    private static int drift(String[] by, int of, int row) {
        int far = by[Math.abs(of - 4)].charAt(row) - '0';
        return of < 4 ? -far : far;
    }

    // "its own, and WAY less 4, by how many rows there are above it (9 less its row), by 4, cut; and WIND less 4, by
    // these, by 6, cut (each cut towards 0). Beyond 0 .. 9 it is LOST."; "(10: LOST)"
    private static void over() {
        for (int row = 0; row < 10; row++) {
            for (int way = 0; way < 9; way++) {
                for (int wind = 0; wind < 9; wind++) {
                    for (int x = 0; x < 10; x++) {
                        int want = x + drift(BY_WAY, way, row) + drift(BY_WIND, wind, row);
                        String thing = "tx" + x + "y" + row + "f" + way;
                        BeatenAfternoon at = Check.estate("sw" + wind + ";" + thing + ";g");
                        CHECK.due("P7 OVER: " + thing + " WIND " + wind, at.thing(0, 6), want < 0 || want > 9 ? 10 : want);
                    }
                }
            }
        }
        Scene outside = Scene.of("estate sl9;tx3y9;tx9y9;gx9");
        outside.due(CHECK, "P7 beyond the LINE", "thing 0 6", "3");
        outside.then("drives 1").due(CHECK, "P7 not OUT", "thing 1 6", "9");
    }

    // "(not, if it is LOST)"; "Else it is LET BY (and stays OUT)"; "those LET BY (LOST ones, too ..)"
    private static void lost() {
        Scene all = Scene.of("estate tx0y8f0;tx9y8f8;tx1y8f0;tx8y8f8;gx0s9;gx9s9", "enact y:20", "law 0");
        all.dues(CHECK, "LOST", "thing 0 6 = 10", "thing 1 6 = 10", "thing 2 6 = 0", "thing 3 6 = 9", "taker 0 = -1", "taker 1 = -1",
            "taker 2 = 0", "taker 3 = 0", "most 8 = 2", "drives 1 = 1", "log 0 0 = 12", "log 0 1 = 3", "log 0 2 = 6", "count 7 = 3",
            "thing 0 5 = 1", "thing 2 5 = 0", "drives 1 = 2", "log 0 0 = 0", "log 0 1 = 3", "count 7 = 3");
    }

    // "SKILL, less 2 times how far PEG is from that column"; "(of several the lowest), 1 at least"
    private static void reachOfSkill() {
        for (int skill = 0; skill <= 9; skill++) {
            for (int far = 0; far <= 9; far++) {
                String want = skill - 2 * far >= 1 ? "0" : "-1";
                Scene.of("estate tx" + far + "y9;gx0s" + skill).due(CHECK, "SKILL " + skill, "taker 0", want);
                Scene.of("estate tx0y9;gx" + far + "s" + skill).due(CHECK, "SKILL " + skill, "taker 0", want);
            }
        }
        String[][] rows = {{"gx5s5;gx5s5", "0"}, {"gx5s5;gx5s6", "1"}, {"gx4s7;gx5s5", "0"}, {"gx5s5;gx4s7", "0"}, {"gx5s5;gx4s8", "1"},
            {"gx5s0;gx5s0;gx5s0;gx5s0;gx5s1", "4"}, {"gx5s0;gx4s2;gx6s2", "-1"}, {"gx5s1;gx4s3;gx6s3;gx3s5;gx7s5", "0"}};
        for (String[] row : rows) {
            Scene.of("estate tx5y9;" + row[0]).due(CHECK, row[0], "taker 0", row[1]);
        }
    }

    // "WORTH by the LAW that holds, held within 0 .. 20"
    private static void reachHeld() {
        String[][] rows = {{"y:s*5", "0"}, {"y:s*4", "1"}, {"y:s+16", "0"}, {"y:s+15", "1"}, {"y:s*9999", "0"}, {"y:s-3", "1"},
            {"y:s-4", "1"}, {"y:s-5", "-1"}, {"y:s-9999", "-1"}, {"y:5-s", "0"}, {"y:4-s", "-1"}, {"y:0-s", "-1"}, {"y:0", "-1"},
            {"y:1", "0"}, {"y:20", "0"}, {"y:s=4?20;y:21", "0"}, {"y:s=4?19;y:20", "1"}, {"y:s=4?19;y:9999", "1"}};
        for (String[] row : rows) {
            Scene.of("estate tx5y9;gx5s4;gx5s5", "enact " + row[0], "law 0").due(CHECK, row[0], "taker 0", row[1]);
        }
        // What it is held at shows where it is added up: both would be LET BY, then each GUN has TAKEN one.
        Scene claimed = Scene.of("estate tx1y0v1;tx2y0v1;tx3y9;tx4y9;gx3;gx4");
        claimed.then("enact y:v=1?n*9999;y:5-d*4-n", "law 0").due(CHECK, "P28 REACH 20 at most", "claim 1", "40");
        claimed.then("enact y:v=1?n*20;y:5-d*4-n", "law 0").due(CHECK, "P28 REACH 20", "claim 1", "40");
        claimed.then("enact y:v=1?n*19;y:5-d*4-n", "law 0").due(CHECK, "P28 REACH 19", "claim 1", "38");
        claimed.then("enact y:v=1?0-n*19;y:5-d*4-n", "law 0").dues(CHECK, "P28 REACH 0 at least", "claim 1 = 0", "claim 0 = 1");
    }

    // "each THING that is OUT in the row of that number, its column within the LINE, RISES"; "MINUTE by MINUTE (0 .. 9)"
    private static void risingWithinTheLine() {
        for (int from = 0; from < 10; from++) {
            for (int to = from; to < 10; to++) {
                for (int x = 0; x < 10; x++) {
                    boolean within = x >= from && x <= to;
                    Scene.of("estate sl" + from + "r" + to + ";tx" + x + "y0f4;g").dues(CHECK, "LINE " + from + " " + to,
                        "rising 0 = " + (within ? 1 : 0), "most 0 = " + (within ? 0 : -1));
                }
            }
        }
        for (int row = 0; row < 10; row++) {
            BeatenAfternoon x = Check.estate("tx5y" + row + ";gx5s9");
            for (int minute = 0; minute < 10; minute++) {
                CHECK.due("P33 row " + row + " MINUTE " + minute, x.rising(minute), row == minute ? 1 : 0);
            }
            CHECK.due("P21 of row " + row, x.taker(0), 0);
        }
    }

    // "RISES, by numbers"; "n how many this GUN has TAKEN in this DRIVE"; "m the MINUTE"
    private static void takenInOrder() {
        Scene one = Scene.of("estate tx5y9;tx5y0;tx5y9;tx5y0;gx5");
        String[] law = {"-1 -1 -1 -1", "-1 0 -1 -1", "-1 0 -1 0", "0 0 -1 0", "0 0 0 0"};
        for (int most = 0; most <= 4; most++) {
            BeatenAfternoon x = one.then("enact y:n<" + most + "?1", "law 0").made();
            CHECK.due("n below " + most, x.taker(0) + " " + x.taker(1) + " " + x.taker(2) + " " + x.taker(3), law[most]);
        }
        one.then("enact y:n<1?1", "law 0", "drives 1").dues(CHECK, "n is 0 again", "taker 1 = -1", "taker 3 = 0", "drives 3 = 4",
            "count 7 = 0", "log 0 0 = 4", "log 1 0 = 1", "log 2 0 = 8", "log 3 0 = 2");
        for (int row = 0; row < 10; row++) {
            Scene.of("estate tx5y" + row + ";gx5", "enact y:m=" + row + "?1", "law 0").due(CHECK, "m in row " + row, "taker 0", "0");
        }
    }

    // "no such what", "no such ones"
    private static void lookedAt() {
        Scene full = Scene.of("estate t;t;t;t;t;t;t;g;g;g;g;g", "drives 1");
        full.dues(CHECK, "P7 P8 the last ones", "thing 6 0 = 0", "thing 6 6 = 0", "gun 4 0 = 0", "gun 4 4 = 0", "rule 3 = 9");
        String[] throwing = {"thing 7 0", "thing -1 0", "thing 0 7", "thing 0 -1", "thing 7 7", "thing -1 -1"};
        for (String call : throwing) {
            full.refused(CHECK, "P7 no such ones", call, "throws");
        }
        String[] none = {"gun 5 0", "gun -1 0", "gun 0 5", "gun 0 -1", "gun 5 5", "rule 4", "rule -1", "status 5", "status -1"};
        for (String call : none) {
            full.refused(CHECK, "P6 P8 P18 no such ones", call, "-1");
        }
        for (String far : FAR) {
            full.refused(CHECK, "P7", "thing " + far + " 0", "throws");
            full.refused(CHECK, "P7", "thing 0 " + far, "throws");
            full.refused(CHECK, "P8", "gun " + far + " 0", "-1");
            full.refused(CHECK, "P8", "gun 0 " + far, "-1");
            full.refused(CHECK, "P6", "rule " + far, "-1");
            full.refused(CHECK, "P18", "status " + far, "-1");
            full.refused(CHECK, "P21", "taker " + far, "-1");
        }
        Scene.of("estate t;t;g;g").refused(CHECK, "P7 as many as there are", "thing 2 0", "throws");
        Scene.of("estate t;t;g;g").refused(CHECK, "P8 as many as there are", "gun 2 0", "-1");
    }

    // "DRIVES (1 .. 60): the DAY. NONE: .. out of bounds (1)"
    private static void drives() {
        Scene at = Scene.of("estate tx5y9v0;tx0y9;gx5", "wind 3", "image", "line 4 6");
        for (String n : new String[] {"0", "-1", "61", "999", "LEAST", "MOST", "1000", "-2147483647"}) {
            at.refused(CHECK, "P10 out of bounds", "drives " + n, "-1", 1);
        }
        at.dues(CHECK, "P10 least and most", "drives 1 = 1", "drives 60 = 61", "drives 59 = 120");
        at.then("drives 1").dues(CHECK, "P10 VALUE 0 is TAKEN, too", "thing 0 5 = 0", "log 0 0 = 1", "log 0 2 = 0", "count 6 = 0", "rule 1 = 23");
        at.then("drives 1").dues(CHECK, "P10 none RISES", "drives 1 = 2", "log 0 0 = 0", "log 0 1 = 0", "log 0 2 = 0", "rule 1 = 26");
    }

    // "DAY 0 at first; 999 at most: none goes by then"; "beyond 999 (4)"; of YEARS "beyond 999"
    private static void lastDay() {
        Scene at = Scene.of("estate tx5y9;gx5", "wind 3", "image").times(16, "drives 60");
        for (int n = 40; n <= 60; n++) {
            at.refused(CHECK, "P10 beyond the last DAY", "drives " + n, "-1", 4);
            at.refused(CHECK, "P17 beyond the last DAY", "years " + n + " 1", "-1");
        }
        at.due(CHECK, "P10 to the last DAY", "drives 39", "999");
        at.due(CHECK, "P17 to the last DAY", "years 39 1", "999");
        Scene last = at.then("drives 39");
        last.refused(CHECK, "P10 none goes by", "drives 1", "-1", 4);
        last.refused(CHECK, "P10 none goes by", "drives 60", "-1", 4);
        last.refused(CHECK, "P17 none goes by", "years 1 1", "-1");
        last.refused(CHECK, "P17 none goes by", "years 60 1", "-1");
        last.refused(CHECK, "P10 out of bounds comes first", "drives 0", "-1", 1);
        last.refused(CHECK, "P10 out of bounds comes first", "drives 61", "-1", 1);
        last.dues(CHECK, "P19 UNDONE, one goes by again", "wind 0 = 3", "undo = 39", "undo = 38", "count 5 = 998", "drives 2 = -1", "drives 1 = 999",
            "undo = 38", "years 2 5 = -1", "years 1 5 = 999", "status 4 = 1", "back = 0", "drives 60 = 60");
    }

    // "COINS 3 more (999 at most)"
    private static void coinsAtMost() {
        for (int coins = 97; coins <= 99; coins++) {
            Scene at = Scene.of("estate sc" + coins + ";tx5y9;gx5").times(5, "drives 60");
            at.dues(CHECK, "P10 COINS", "rule 1 = " + (coins + 900), "drives 1 = 301", "rule 1 = 999", "drives 1 = 302", "rule 1 = 999",
                "undo = 39", "rule 1 = 999", "undo = 38", "rule 1 = " + (coins + 900), "years 1 1 = 301", "rule 1 = 999",
                "practise 0 = 6", "rule 1 = 996", "drives 1 = 302", "rule 1 = 999");
        }
        Scene.of("estate sc0;t;g").dues(CHECK, "P10 from none", "drives 1 = 1", "rule 1 = 3");
    }

    // "BAG of the GUN (0 at first; 9,999 at most) is more by its VALUE"
    private static void bagsAtMost() {
        Scene at = Scene.of("estate tx0y9v9;tx0y9v9;tx0y9v9;tx0y9v9;tx0y9v9;tx0y9v9;tx0y9v9;gx0s9;gx9s9", "lots 0").times(15, "years 60 3");
        for (int i = 0; i < 29; i++) {
            at = at.then("putOut 0", "putOut 1", "putOut 2", "putOut 3", "putOut 4", "putOut 5", "putOut 6", "drives 1");
        }
        at.dues(CHECK, "P10 eighteen short", "gun 0 2 = 9981", "count 6 = 9981", "putOut 0 = 678", "drives 1 = 930", "gun 0 2 = 9990", "putOut 0 = 679",
            "drives 1 = 931", "gun 0 2 = 9999", "putOut 0 = 680", "gun 0 3 = 9", "drives 1 = 932", "gun 0 2 = 9999", "log 0 2 = 9", "log 0 0 = 1",
            "undo = 39", "gun 0 2 = 9999", "undo = 38", "undo = 37", "gun 0 2 = 9990", "shares 0 999 = 999", "shares 1 999 = 0");
        at.then("putOut 0", "putOut 1", "putOut 2").dues(CHECK, "P10 held, not let go", "gun 0 3 = 27", "drives 1 = 930", "gun 0 2 = 9999",
            "log 0 2 = 27", "count 6 = 9999", "shares 0 999 = 999", "ahead 9999 = 0", "years 1 3 = 931", "gun 0 2 = 9999");
        Scene another = at.then("putOut 0", "putOut 1", "putOut 2", "drives 1", "putOut 0", "move 1 0", "practise 0", "move 0 9");
        another.dues(CHECK, "P10 each GUN by itself", "gun 1 3 = 9", "drives 1 = 931", "gun 0 2 = 9999", "gun 1 2 = 9", "count 6 = 10008",
            "shares 0 999 = 998", "shares 1 999 = 0", "ahead 9999 = 0", "most 3 = 0");
    }

    // "The LINE: how many columns. NONE: .. out of bounds, from above to (1), it is so (2)."
    private static void line() {
        Scene at = Scene.of("estate sl2r6;tx5y9;gx5", "wind 3", "image", "wind 4");
        for (int from = -1; from <= 10; from++) {
            for (int to = -1; to <= 10; to++) {
                String call = "line " + from + " " + to;
                if (from < 0 || to > 9 || from > to) {
                    at.refused(CHECK, "P11 out of bounds", call, "-1", 1);
                } else if (from == 2 && to == 6) {
                    at.refused(CHECK, "P11 it is so", call, "-1", 2);
                } else {
                    at.dues(CHECK, "P11", call + " = " + (to - from + 1), "rule 2 = " + from, "rule 3 = " + to, "count 11 = 3", "rule 1 = 20");
                }
            }
        }
        for (String far : FAR) {
            at.refused(CHECK, "P11 out of bounds", "line " + far + " 9", "-1", 1);
            at.refused(CHECK, "P11 out of bounds", "line 0 " + far, "-1", 1);
            at.refused(CHECK, "P11 out of bounds", "line " + far + " " + far, "-1", 1);
        }
        at.dues(CHECK, "P11 one end alone", "line 2 5 = 4", "line 3 5 = 3", "line 2 6 = 5", "line 2 6 = -1");
    }

    // "a PEG is moved (a COIN for each column)"; "NONE: no such GUN (STATUS 0), out of bounds (1), it is so (2), too few (3)."
    private static void move() {
        for (int coins = 0; coins <= 10; coins++) {
            for (int column = 0; column <= 9; column++) {
                Scene at = Scene.of("estate sc" + coins + ";t;gx0;gx9");
                if (column == 0) {
                    at.refused(CHECK, "P12 it is so", "move 0 0", "-1", 2);
                    at.refused(CHECK, "P12 it is so", "move 1 9", "-1", 2);
                } else if (column > coins) {
                    at.refused(CHECK, "P12 too few", "move 0 " + column, "-1", 3);
                    at.refused(CHECK, "P12 too few", "move 1 " + (9 - column), "-1", 3);
                } else {
                    at.dues(CHECK, "P12 to the right", "move 0 " + column + " = " + (coins - column), "gun 0 0 = " + column, "gun 1 0 = 9", "count 11 = 1");
                    at.dues(CHECK, "P12 to the left", "move 1 " + (9 - column) + " = " + (coins - column), "gun 1 0 = " + (9 - column), "gun 0 0 = 0");
                }
            }
        }
        Scene at = Scene.of("estate sc99;t;gx0;gx9", "wind 1", "image", "wind 2");
        for (String gun : new String[] {"2", "-1", "5", "LEAST", "MOST"}) {
            at.refused(CHECK, "P12 no such GUN", "move " + gun + " 5", "-1", 0);
            at.refused(CHECK, "P12 no such GUN", "move " + gun + " 10", "-1", 0);
        }
        for (String column : new String[] {"10", "-1", "LEAST", "MOST"}) {
            at.refused(CHECK, "P12 out of bounds", "move 0 " + column, "-1", 1);
            at.refused(CHECK, "P12 out of bounds", "move 1 " + column, "-1", 1);
        }
    }

    // "a GUN practises (SKILL one more, 9 at most; 3 COINS)"; "NONE: no such GUN (STATUS 0), nine (2), too few (3)."
    private static void practise() {
        for (int coins = 0; coins <= 4; coins++) {
            for (int skill = 0; skill <= 9; skill++) {
                Scene at = Scene.of("estate sc" + coins + ";t;gs4;gs" + skill);
                if (skill == 9) {
                    at.refused(CHECK, "P13 nine", "practise 1", "-1", 2);
                } else if (coins < 3) {
                    at.refused(CHECK, "P13 too few", "practise 1", "-1", 3);
                } else {
                    at.dues(CHECK, "P13", "practise 1 = " + (skill + 1), "gun 1 1 = " + (skill + 1), "gun 0 1 = 4", "rule 1 = " + (coins - 3), "count 11 = 1");
                }
            }
        }
        Scene at = Scene.of("estate sc99;t;gs8;gs0", "practise 0", "image", "wind 0");
        for (String gun : new String[] {"2", "-1", "5", "LEAST", "MOST"}) {
            at.refused(CHECK, "P13 no such GUN", "practise " + gun, "-1", 0);
        }
        at.refused(CHECK, "P13 nine", "practise 0", "-1", 2);
        at.times(8, "practise 1").dues(CHECK, "P13 up to nine", "practise 1 = 9", "practise 1 = -1", "rule 1 = 69", "status 2 = 1");
    }

    // "the WIND turns (0 .. 8)"; "what it was. NONE: no ESTATE (STATUS 0), out of bounds (1), it is so (2)."
    private static void wind() {
        for (int is = 0; is <= 8; is++) {
            for (int v = 0; v <= 8; v++) {
                Scene at = Scene.of("estate sw" + is + ";t;g");
                if (is == v) {
                    at.refused(CHECK, "P14 it is so", "wind " + v, "-1", 2);
                } else {
                    at.dues(CHECK, "P14", "wind " + v + " = " + is, "rule 0 = " + v, "count 11 = 1", "rule 1 = 20");
                }
            }
        }
        Scene at = Scene.of("estate tx5y0;gx5", "line 0 5", "image", "wind 8");
        for (String v : new String[] {"9", "-1", "10", "LEAST", "MOST"}) {
            at.refused(CHECK, "P14 out of bounds", "wind " + v, "-1", 1);
        }
    }

    // "a THING that is TAKEN is put OUT again (2 COINS)"; "NONE: no such THING (STATUS 0), it is OUT (2), too few (3)."
    private static void putOut() {
        for (int coins = 0; coins <= 6; coins++) {
            int left = coins + 3;
            Scene at = Scene.of("estate sc" + coins + ";tx5y9;tx5y9;tx5y9;tx5y9;tx5y9;tx0y9;gx5", "drives 1");
            for (int thing = 0; thing < 5; thing++) {
                if (left < 2) {
                    at.refused(CHECK, "P15 too few", "putOut " + thing, "-1", 3);
                } else {
                    left -= 2;
                    at.dues(CHECK, "P15", "putOut " + thing + " = " + left, "thing " + thing + " 5 = 1", "rule 1 = " + left);
                    at = at.then("putOut " + thing);
                    at.refused(CHECK, "P15 it is OUT", "putOut " + thing, "-1", 2);
                }
            }
            at.refused(CHECK, "P15 it was never TAKEN", "putOut 5", "-1", 2);
        }
        Scene at = Scene.of("estate tx5y9;tx0y9;gx5", "drives 1", "image", "wind 1");
        for (String thing : new String[] {"2", "-1", "7", "LEAST", "MOST"}) {
            at.refused(CHECK, "P15 no such THING", "putOut " + thing, "-1", 0);
        }
    }

    // "of several the first"
    private static void ofSeveralTheFirst() {
        Scene poor = Scene.of("estate sc0;tx5y9;gx5s9");
        poor.refused(CHECK, "P12 no such GUN, out of bounds", "move 1 10", "-1", 0);
        poor.refused(CHECK, "P12 no such GUN, too few", "move 1 9", "-1", 0);
        poor.refused(CHECK, "P12 out of bounds, too few", "move 0 10", "-1", 1);
        poor.refused(CHECK, "P12 it is so, with no COINS", "move 0 5", "-1", 2);
        poor.refused(CHECK, "P12 too few", "move 0 4", "-1", 3);
        poor.refused(CHECK, "P13 no such GUN, too few", "practise 1", "-1", 0);
        poor.refused(CHECK, "P13 nine, too few", "practise 0", "-1", 2);
        poor.refused(CHECK, "P15 no such THING, too few", "putOut 1", "-1", 0);
        poor.refused(CHECK, "P15 it is OUT, too few", "putOut 0", "-1", 2);
    }

    // "LOTS (0 .. 9; 2 at first)"; "False: out of bounds, it is so."
    private static void lots() {
        for (Scene at : new Scene[] {Scene.of(), Scene.of("estate t;g", "wind 1", "image", "wind 2")}) {
            at.due(CHECK, "P16 at first", "count 8", "2");
            at.refused(CHECK, "P16 it is so", "lots 2", "false");
            for (String v : new String[] {"10", "-1", "LEAST", "MOST"}) {
                at.refused(CHECK, "P16 out of bounds", "lots " + v, "false");
            }
            for (int v = 0; v <= 9; v++) {
                if (v != 2) {
                    at.dues(CHECK, "P16", "lots " + v + " = true", "count 8 = " + v, "lots " + v + " = false", "lots 2 = true", "count 8 = 2");
                    at.then("lots " + v).refused(CHECK, "P16 it is so", "lots " + v, "false");
                }
            }
        }
        Scene.of("estate t;g", "wind 1", "lots 5").dues(CHECK, "P16 no ACT", "count 11 = 1", "undo = 0", "count 8 = 5");
    }

    /** x shifted, draw by draw. */
    private static long[] drawn(long seed, int many) {
        BigInteger round = BigInteger.ONE.shiftLeft(64);
        BigInteger x = BigInteger.valueOf(seed).mod(round);
        long[] all = new long[many];
        for (int i = 0; i < many; i++) {
            x = x.multiply(new BigInteger("6364136223846793005")).add(new BigInteger("1442695040888963407")).mod(round);
            all[i] = x.shiftRight(33).longValueExact();
        }
        return all;
    }

    // "a draw of 10: below LOTS (0 .. 9; 2 at first) a draw of how many GUNS, a draw of 10: its PEG there (for nothing)"
    private static void lotsDrawn() {
        for (long seed = -40; seed < 40; seed++) {
            long[] x = drawn(seed, 5);
            for (int lots = 0; lots <= 9; lots++) {
                int[] pegs = {3, 6};
                if (x[2] % 10 < lots) {
                    pegs[(int) (x[3] % 2)] = (int) (x[4] % 10);
                }
                BeatenAfternoon at = Scene.of("estate sc0;tx5y9;gx3;gx6", "lots " + lots, "years 1 " + seed).made();
                CHECK.due("P17 seed " + seed + " LOTS " + lots, at.gun(0, 0) + " " + at.gun(1, 0) + " " + at.rule(0) + " " + at.rule(1),
                    pegs[0] + " " + pegs[1] + " " + x[0] % 9 + " 3");
            }
        }
    }

    // "a draw of how many THINGS there are: it is put OUT, if it is TAKEN (for nothing)"; "x .. (64 bits, going round)"
    private static void putOutByDraw() {
        long[] seeds = {0, 1, -1, Long.MIN_VALUE, Long.MAX_VALUE, 1L << 32, -(1L << 32), 1L << 33, 6364136223846793005L};
        for (long seed : seeds) {
            for (int things = 1; things <= 7; things++) {
                long[] x = drawn(seed, 6);
                String text = "tx5y9;".repeat(things) + "gx5";
                Scene taken = Scene.of("estate sc0;" + text, "lots 0", "drives 1");
                taken.dues(CHECK, "P17 seed " + seed, "count 7 = 0", "years 1 " + seed + " = 2", "log 0 0 = " + (1 << x[1] % things),
                    "rule 0 = " + x[0] % 9, "rule 1 = 6", "gun 0 0 = 5");
                taken.dues(CHECK, "P17 seed " + seed, "years 2 " + seed + " = 3", "log 1 0 = " + (1 << x[1] % things),
                    "log 0 0 = " + (1 << x[4] % things), "rule 0 = " + x[3] % 9, "rule 1 = 9");
                Scene.of("estate sc0l9;" + text, "lots 0").dues(CHECK, "P17 one that is OUT stays OUT",
                    "years 1 " + seed + " = 1", "count 7 = " + ((1 << things) - 1), "rule 1 = 3");
            }
        }
    }

    // "n (1 .. 60) DRIVES"; "NONE: no ESTATE, out of bounds, beyond 999."; "No STATUS. Each DRIVE with what is ahead of it is one ACT."
    private static void years() {
        Scene at = Scene.of("estate tx5y9;tx0y0;gx5;gx9", "wind 1", "image", "lots 9");
        for (String n : new String[] {"0", "-1", "61", "1000", "LEAST", "MOST"}) {
            at.refused(CHECK, "P17 out of bounds", "years " + n + " 7", "-1");
        }
        at.dues(CHECK, "P17 least and most", "years 1 7 = 1", "count 11 = 2", "years 60 7 = 61", "count 11 = 40", "years 59 7 = 120", "count 10 = 60");
        BeatenAfternoon x = at.made();
        String[] before = new String[31];
        for (int i = 0; i < 30; i++) {
            before[i] = Scene.told(at.then(i == 0 ? "status 0" : "years " + i + " 99").made());
        }
        x.years(30, 99);
        for (int i = 29; i >= 0; i--) {
            CHECK.due("P19 a year UNDONE leaves", x.undo(), i + 1);
            CHECK.due("P19 as it was ahead of the year " + i, Scene.told(x), before[i]);
        }
    }

    // "STATUS: how many ACTS were refused .."; "not UNDONE"; "NONE: no such what."
    private static void status() {
        Scene at = Scene.of("estate sc0;tx5y9;gx5s9", "image", "putOut 1", "putOut 1", "move 0 10", "move 0 10", "move 0 10", "practise 0", "move 0 6",
            "move 0 6", "move 0 6", "move 0 6").times(16, "drives 60").then("drives 60", "drives 60", "drives 60", "drives 60", "drives 60");
        String[] rows = {"status 0 = 2", "status 1 = 3", "status 2 = 1", "status 3 = 4", "status 4 = 5", "status 5 = -1"};
        at.dues(CHECK, "P18", rows);
        at.times(40, "undo").dues(CHECK, "P18 not UNDONE", rows);
        at.then("back").dues(CHECK, "P18 nor brought BACK", rows);
        at.then("estate t;g").dues(CHECK, "P18 nor gone with the ESTATE", rows);
        at.then("status 0", "status 4", "years 60 1", "lots 99", "undo", "seen 9 9 9 true").dues(CHECK, "P18 of ACTS alone", rows);
    }

    // "All these (each DRIVE) are ACTS: the latest 40 can be UNDONE one by one (LOG, too)."
    private static void undoOneByOne() {
        String[] acts = {"drives 1", "line 2 9", "move 1 9", "practise 0", "wind 1", "putOut 0", "years 1 5", "line 0 9", "drives 1", "wind 2", "years 1 6"};
        Scene at = Scene.of("estate sc50;tx5y9v4;tx9y9;tx2y3;gx5;gx6", "lots 9");
        at.refused(CHECK, "P19 none", "undo", "-1");
        for (int i = 0; i < acts.length; i++) {
            Scene then = at.then(acts[i]);
            then.dues(CHECK, "P19 of " + acts[i], "count 11 = " + (i + 1), "undo = " + i, "count 11 = " + i);
            CHECK.due("P19 as it was ahead of " + acts[i], Scene.told(then.then("undo").made()), Scene.told(at.made()));
            at = then;
        }
        at.times(acts.length, "undo").refused(CHECK, "P19 none", "undo", "-1");
        at.dues(CHECK, "P19 not ACTS", "image = 4", "law -1 = true", "lots 1 = true", "seen 0 0 0 true = 1", "tape x = 1", "count 11 = 11");
        at.then("seen 0 0 0 false", "lots 3", "undo").dues(CHECK, "P19 not UNDONE", "count 9 = 1", "count 8 = 3");
    }

    private static void undoForty() {
        for (int many = 38; many <= 82; many++) {
            Scene at = Scene.of("estate sw8;t;g");
            for (int i = 0; i < many; i++) {
                at = at.then("wind " + i % 8);
            }
            int left = Math.min(40, many);
            at.due(CHECK, "P19 the latest 40 of " + many, "count 11", "" + left);
            at.times(left - 1, "undo").dues(CHECK, "P19 of " + many, "count 11 = 1", "undo = 0",
                "rule 0 = " + (many <= 40 ? 8 : (many - 41) % 8), "undo = -1", "wind " + (many <= 40 ? 0 : (many - 40) % 8) + " = "
                + (many <= 40 ? 8 : (many - 41) % 8), "count 11 = 1", "undo = 0");
        }
        Scene.of("estate t;g", "drives 60").times(39, "undo").dues(CHECK, "P19 each DRIVE is one", "undo = 0", "count 5 = 20", "count 10 = 20",
            "rule 1 = 80", "undo = -1");
        Scene.of("estate t;g", "years 60 1").times(39, "undo").dues(CHECK, "P19 each year is one", "undo = 0", "count 5 = 20", "count 10 = 20",
            "rule 1 = 80", "undo = -1");
    }

    /** All that is told but how many ACTS can be UNDONE, which stands as the twelfth word. */
    private static String toldButActs(Scene scene) {
        return Scene.told(scene.made()).replaceFirst("^((?:\\S+ ){11})\\S+ ", "$1");
    }

    // "(LOG, too)": what had gone behind the 60 is there again
    private static void undoneWithLog() {
        Scene at = Scene.of("estate tx5y9v1;tx4y8v2;tx6y7v3;tx5y0v4;gx5;gx2", "lots 9");
        for (int day : new int[] {1, 19, 20, 21, 39, 40, 41, 59, 60, 61, 79, 80, 99, 100, 101, 119, 120}) {
            for (int more : new int[] {1, 2, 20, 39, 40}) {
                Scene first = at.then("years " + Math.min(60, day) + " " + day);
                if (day > 60) {
                    first = first.then("years " + (day - 60) + " 77");
                }
                Scene undone = first.then("years " + more + " 4").times(more, "undo");
                CHECK.due("P19 the LOG of " + day + " behind " + more, toldButActs(undone), toldButActs(first));
                Scene again = undone.then("years " + more + " 8");
                CHECK.due("P19 and goes on", toldButActs(again), toldButActs(first.then("years " + more + " 8")));
            }
        }
    }

    // "VALUE TAKEN (the latest 60)"; "LOG, the latest (i 0), the one ahead of it (1) ..: .. NONE: no such ones."
    private static void logOfSixty() {
        Scene first = Scene.of("estate sc9;tx5y9v9;tx0y9;gx5", "drives 1");
        for (int days = 1; days <= 62; days++) {
            Scene at = days == 1 ? first : days == 62 ? first.then("drives 60", "drives 1") : first.then("drives " + (days - 1));
            int length = Math.min(60, days);
            String oldest = days <= 60 ? "1" : "0";
            at.dues(CHECK, "P20 " + days + " DRIVES", "count 10 = " + length, "log " + (length - 1) + " 0 = " + oldest,
                "log " + (length - 1) + " 1 = 2", "log " + (length - 1) + " 2 = " + (days <= 60 ? 9 : 0), "log " + length + " 0 = -1",
                "log 0 0 = " + (days == 1 ? 1 : 0));
        }
        Scene at = first.then("image", "wind 3");
        for (String no : new String[] {"1", "-1", "60", "LEAST", "MOST"}) {
            at.refused(CHECK, "P20 no such one", "log " + no + " 0", "-1");
        }
        for (String no : new String[] {"3", "-1", "LEAST", "MOST"}) {
            at.refused(CHECK, "P20 no such what", "log 0 " + no, "-1");
        }
        Scene.of("estate t;g").refused(CHECK, "P20 an empty LOG", "log 0 0", "-1");
        Scene.of("estate tx0y9v9;tx0y9v9;tx0y9v9;tx0y9v9;tx0y9v9;tx0y9v9;tx0y9v9;gx0", "drives 1").dues(CHECK, "P20 as much as there can be",
            "log 0 0 = 127", "log 0 1 = 0", "log 0 2 = 63");
        Scene.of("estate tx0y9;tx0y9;tx0y9;tx0y9;tx0y9;tx0y9;tx0y9;gx9", "drives 1").dues(CHECK, "P20 as many as there can be",
            "log 0 0 = 0", "log 0 1 = 127", "log 0 2 = 0");
    }

    // "An IMAGE (instead of the one ahead): the DAY."; "BACK: the DAY. NONE: no IMAGE of this ESTATE."; "(no ACT can be UNDONE then)"
    private static void image() {
        Scene at = Scene.of("estate tx5y9;gx5", "drives 2", "wind 1");
        at.refused(CHECK, "P37 no IMAGE", "back", "-1");
        at.dues(CHECK, "P36", "image = 2", "count 11 = 3", "drives 3 = 5", "image = 5", "drives 1 = 6", "back = 5", "undo = -1", "count 11 = 0",
            "back = 5", "wind 2 = 1", "count 11 = 1", "back = 5", "rule 0 = 1", "count 11 = 0", "drives 2 = 7", "undo = 1", "undo = 0",
            "undo = -1", "count 5 = 5", "image = 5", "back = 5");
        Scene.of("estate tx5y9;gx5").dues(CHECK, "P36 on DAY 0", "image = 0", "drives 9 = 9", "back = 0", "count 10 = 0", "log 0 0 = -1");
        at.then("image", "undo", "undo").dues(CHECK, "P37 forth", "count 5 = 1", "back = 2", "count 10 = 2", "rule 0 = 1", "undo = -1");
        at.then("image", "estate tx5y9;gx5").refused(CHECK, "P37 the IMAGE of another ESTATE", "back", "-1");
        at.then("image", "tape t", "text 0").due(CHECK, "P37 a FAULT leaves it", "back", "2");
        Scene last = Scene.of("estate tx5y9;gx5").times(16, "drives 60").then("drives 39", "image", "undo");
        last.dues(CHECK, "P37 to the last DAY", "back = 999", "drives 1 = -1", "status 4 = 1", "count 10 = 60");
    }

    // "An IMAGE keeps WIND, the LINE, who is OUT, PEGS, SKILL, BAGS, COINS, the DAY, the LOG"
    private static void imageKeeps() {
        Scene at = Scene.of("estate sw3c40l1r8;tx5y9v4;tx6y9;tx1y0;gx5s7;gx7s8", "drives 1", "putOut 1", "image");
        String kept = toldButActs(at);
        String[][] more = {{"wind 0"}, {"line 0 0"}, {"putOut 0"}, {"drives 1"}, {"move 0 0"}, {"practise 1"}, {"drives 60", "drives 60"},
            {"years 60 1", "years 60 2", "years 3 3"}, {"undo", "undo"}, {"undo", "undo", "wind 8", "drives 2"}, {"image"}, {"back"}};
        for (String[] calls : more) {
            CHECK.due("P37 behind " + String.join(", ", calls), toldButActs(at.then(calls).then("back")), kept);
            at.then(calls).then("back").dues(CHECK, "P37 behind " + String.join(", ", calls), "count 11 = 0", "undo = -1");
        }
    }

    private static void imageKeepsNotMore() {
        Scene at = Scene.of("estate tx5y9;gx5", "enact y:1", "image", "enact y:2", "law 1", "lots 8", "seen 0 0 0 false", "tape abc", "wind 9", "back");
        at.dues(CHECK, "P37 not in the IMAGE", "count 2 = 2", "count 4 = 1", "count 8 = 8", "count 9 = 1", "count 3 = 3", "status 1 = 1");
    }

    private static void imageOfLog() {
        Scene at = Scene.of("estate tx5y9v1;tx4y8v2;tx6y7v3;tx5y0v4;gx5;gx2", "lots 9");
        for (int day : new int[] {1, 59, 60, 61, 99, 100, 101, 120}) {
            Scene kept = at.then("years " + Math.min(60, day) + " " + day);
            kept = (day > 60 ? kept.then("years " + (day - 60) + " 77") : kept).then("image");
            for (int more : new int[] {1, 40, 60}) {
                Scene back = kept.then("years " + more + " 3", "back");
                CHECK.due("P37 the LOG of " + day + " behind " + more, toldButActs(back), toldButActs(kept));
                CHECK.due("P37 and goes on", toldButActs(back.then("years 5 6")), toldButActs(kept.then("years 5 6")));
            }
        }
    }

    // "HIDDEN for others."
    private static void counts() {
        Scene full = Scene.of("estate t;t;t;t;t;t;t;g;g;g;g;g", "drives 1");
        for (String what : new String[] {"12", "-1", "LEAST", "MOST"}) {
            full.refused(CHECK, "P38", "count " + what, "-1000000");
            Scene.of().refused(CHECK, "P38", "count " + what, "-1000000");
        }
        full.dues(CHECK, "P38 as many as there can be", "count 0 = 7", "count 1 = 5", "count 10 = 1", "count 11 = 1");
        Scene.of("estate t;t;t;t;t;t;t;g;g;g;g;g").due(CHECK, "P38 all OUT", "count 7", "127");
    }
}
