/** Promises 21 to 35: what would be, best lines and pegs, deals, sightings, claims, games, odds, shares. */
public final class AskTest {
    private static final int NONE = BeatenAfternoon.NONE;
    private static final int HIDDEN = BeatenAfternoon.HIDDEN;
    private static final Check CHECK = new Check();

    public static void main(String[] args) {
        taker();
        bestLine();
        bestPeg();
        dealt();
        seen();
        lay();
        ask();
        claim();
        claimByLaw();
        game();
        rests();
        odds();
        oddsOfMany();
        oddsUnderLaw();
        shares();
        rising();
        most();
        ahead();
        apart();
        CHECK.finish("AskTest");
    }

    private static void taker() {
        BeatenAfternoon x = Check.estate("sl1r8;tx0y9;tx1y9;tx8y9;tx9y9;tx4y9;gx1s9;gx7s9");
        CHECK.due("P21 left of the LINE", x.taker(0), NONE);
        CHECK.due("P21 its first column", x.taker(1), 0);
        CHECK.due("P21 its last column", x.taker(2), 1);
        CHECK.due("P21 right of the LINE", x.taker(3), NONE);
        CHECK.due("P21 as far from both", x.taker(4), 0);
        x.drives(1);
        CHECK.due("P21 not OUT", x.taker(1), NONE);
        CHECK.due("P21 taker(5)", x.taker(5), NONE);
    }

    private static void bestLine() {
        BeatenAfternoon x = Check.estate("sl0r0;tx0y9v2;tx3y9v5;tx4y9v5;tx9y9v9;gx0s9;gx4s9;gx9s9");
        int[][] want = {{1, 99, 9}, {2, 34, 10}, {3, 24, 10}, {4, 14, 10}, {5, 4, 12}, {6, 49, 14}, {7, 39, 19}, {10, 9, 21}};
        for (int[] w : want) {
            CHECK.due("P22 bestLine(" + w[0] + ", 0)", x.bestLine(w[0], 0), w[1]);
            CHECK.due("P22 bestLine(" + w[0] + ", 1)", x.bestLine(w[0], 1), w[2]);
        }
        CHECK.due("P22 bestLine(0, 0)", x.bestLine(0, 0), NONE);
        CHECK.due("P22 bestLine(11, 0)", x.bestLine(11, 0), NONE);
        CHECK.due("P22 bestLine(1, 2)", x.bestLine(1, 2), NONE);
        CHECK.due("P22 bestLine(1, -1)", x.bestLine(1, -1), NONE);
        BeatenAfternoon worthless = Check.estate("tx5y9v0;gx5");
        CHECK.due("P22 nothing to be had: the least", worthless.bestLine(5, 0), 4);
        CHECK.due("P22 nothing to be had", worthless.bestLine(5, 1), 0);
        x.line(0, 9);
        x.drives(1);
        CHECK.due("P22 none is OUT", x.bestLine(1, 0), 0);
        BeatenAfternoon bound = Check.underLaw("tx1y0v9;tx5y1v2;tx5y2v2;tx5y3v2;g", "y:n<2?5");
        CHECK.due("P22 fewer columns may have more", bound.bestLine(5, 0) + " " + bound.bestLine(5, 1), "15 11");
    }

    private static void bestPeg() {
        BeatenAfternoon x = Check.estate("tx2y9v4;tx7y9v5;gx0s1;gx7s3");
        CHECK.due("P23 bestPeg(0, 0)", x.bestPeg(0, 0), 2);
        CHECK.due("P23 bestPeg(0, 1)", x.bestPeg(0, 1), 4);
        CHECK.due("P23 bestPeg(1, 0)", x.bestPeg(1, 0), 6);
        CHECK.due("P23 bestPeg(1, 1)", x.bestPeg(1, 1), 5);
        CHECK.due("P23 bestPeg(2, 0)", x.bestPeg(2, 0), NONE);
        CHECK.due("P23 bestPeg(-1, 0)", x.bestPeg(-1, 0), NONE);
        CHECK.due("P23 bestPeg(0, 2)", x.bestPeg(0, 2), NONE);
        CHECK.due("P23 bestPeg(0, -1)", x.bestPeg(0, -1), NONE);
        BeatenAfternoon last = Check.estate("tx9y9v4;gx0s1");
        CHECK.due("P23 the last column", last.bestPeg(0, 0), 9);
        BeatenAfternoon none = Check.estate("tx9y9v0;gx5s1");
        CHECK.due("P23 nothing to be had", none.bestPeg(0, 0) + " " + none.bestPeg(0, 1), "0 0");
    }

    private static void dealt() {
        BeatenAfternoon x = Check.estate("tx2y9v3;tx5y9v4;tx8y9v5;gx4s9;gx6s6");
        CHECK.due("P24 as they stand", x.dealt(0) + " " + x.dealt(1), "1 2");
        x = Check.estate("tx2y9v5;tx5y9v4;tx8y9v3;gx4s9;gx6s6");
        CHECK.due("P24 the other way round", x.dealt(0) + " " + x.dealt(1), "10 2");
        x = Check.estate("tx2y9v5;tx5y9v4;tx8y9v3;gx6s9;gx4s6");
        CHECK.due("P24 leftmost by PEGS, not by numbers", x.dealt(0) + " " + x.dealt(1), "10 2");
        x = Check.estate("tx0y9v5;tx9y9v2;gx9;gx0");
        CHECK.due("P24 of several the least row", x.dealt(0) + " " + x.dealt(1), "1 3");
        CHECK.due("P24 one GUN", Check.estate("t;g").dealt(0) + " " + Check.estate("tv9;g").dealt(1), "0 0");
        x = Check.estate("tv0;g;gx5;gx9;gx2;g");
        CHECK.due("P24 five GUNS", x.dealt(0) + " " + x.dealt(1), "1234 0");
        x = Check.estate("tx1y9v3;tx3y9v3;tx5y9v3;tx7y9v3;tx9y9v3;gx9s1;gx7s1;gx5s2;gx3s1;gx1s3");
        CHECK.due("P24 five with as much each", x.dealt(0) + " " + x.dealt(1), "1234 0");
        x = Check.estate("tx0y9v1;tx9y9v1;tx5y9v9;gx0s1;gx9s1;gx5s0");
        CHECK.due("P24 three GUNS", x.dealt(0) + " " + x.dealt(1), "21 1");
        CHECK.due("P24 dealt(2)", x.dealt(2), NONE);
        CHECK.due("P24 dealt(-1)", x.dealt(-1), NONE);
    }

    /** y3 has six rows above it: each step of the WIND is one column. */
    private static BeatenAfternoon drifting() {
        return Check.estate("tx2y3;tx0y9;g");
    }

    private static void seen() {
        BeatenAfternoon x = drifting();
        CHECK.due("P25 seen(2, ..)", x.seen(2, 0, 0, true), NONE);
        CHECK.due("P25 seen(-1, ..)", x.seen(-1, 0, 0, true), NONE);
        CHECK.due("P25 WIND 9", x.seen(0, 9, 0, true), NONE);
        CHECK.due("P25 WIND -1", x.seen(0, -1, 0, true), NONE);
        CHECK.due("P25 column 10", x.seen(0, 0, 10, true), NONE);
        CHECK.due("P25 column -1", x.seen(0, 0, -1, true), NONE);
        for (int i = 1; i <= 10; i++) {
            CHECK.due("P25 seen(1, 8, 9, false)", x.seen(1, 8, 9, false), i);
        }
        CHECK.due("P25 there are ten", x.seen(1, 8, 9, false), NONE);
        CHECK.due("P38 SEEN", x.count(9), 10);
        CHECK.due("P25 no ACT", x.count(11), 0);
        CHECK.due("P25 no STATUS", Check.refused(x), "0 0 0 0 0");
        CHECK.due("P25 no ESTATE", new BeatenAfternoon().seen(0, 0, 0, true), NONE);
    }

    private static void lay() {
        BeatenAfternoon x = drifting();
        CHECK.due("P26 nothing SEEN", x.lay(0, NONE), 10);
        x.seen(0, 8, 5, false);
        CHECK.due("P26 not 1", x.lay(0, NONE), 9);
        CHECK.due("P26 the first", x.lay(0, 0), 0);
        CHECK.due("P26 the second", x.lay(0, 1), 2);
        CHECK.due("P26 the last", x.lay(0, 8), 9);
        CHECK.due("P26 lay(0, 9)", x.lay(0, 9), NONE);
        CHECK.due("P26 lay(0, -2)", x.lay(0, -2), NONE);
        CHECK.due("P26 the other THING", x.lay(1, NONE), 10);
        x.seen(0, 0, 3, true);
        CHECK.due("P26 7 alone", x.lay(0, NONE) + " " + x.lay(0, 0), "1 7");
        x.seen(0, 0, 4, true);
        CHECK.due("P26 none", x.lay(0, NONE) + " " + x.lay(0, 0), "0 -1");
        CHECK.due("P27 nothing fits", x.ask(0, 5), NONE);
        CHECK.due("P26 lay(2, -1)", x.lay(2, NONE), NONE);
        CHECK.due("P26 lay(-1, -1)", x.lay(-1, NONE), NONE);
        x.wind(8);
        CHECK.due("P26 the WIND now does not matter", x.lay(1, NONE), 10);
    }

    private static void ask() {
        BeatenAfternoon x = drifting();
        CHECK.due("P27 the least WIND of several", x.ask(0, 5), 0);
        CHECK.due("P27 OVER 9 from 9 at the earliest", x.ask(0, 9), 4);
        for (int column : new int[] {0, 1, 4, 5, 6, 7, 8, 9}) {
            x.seen(0, 4, column, false);
        }
        CHECK.due("P27 2 or 3", x.lay(0, NONE) + " " + x.lay(0, 0) + " " + x.lay(0, 1), "2 2 3");
        CHECK.due("P27 which tells them apart", x.ask(0, 5), 6);
        CHECK.due("P27 none tells: the least", x.ask(0, 9), 0);
        CHECK.due("P27 ask(0, 0)", x.ask(0, 0), 1);
        CHECK.due("P27 ask(0, 10)", x.ask(0, 10), NONE);
        CHECK.due("P27 ask(0, -1)", x.ask(0, -1), NONE);
        CHECK.due("P27 ask(2, 0)", x.ask(2, 0), NONE);
        CHECK.due("P27 ask(-1, 0)", x.ask(-1, 0), NONE);
    }

    private static void claim() {
        CHECK.due("P28 no such THINGS", Check.estate("tx5y9;gx5").claim(0), NONE);
        CHECK.due("P28 how much then", Check.estate("tx5y9;gx5").claim(1), 0);
        CHECK.due("P28 LOST ones are not claimed", Check.estate("tx9y0f8;gx9").claim(0), NONE);
        BeatenAfternoon x = Check.estate("tx9y9;tx8y9;tx7y9;gx0s5;gx1s5");
        CHECK.due("P28 no REACH: the least row", x.claim(0) + " " + x.claim(1), "19 0");
        CHECK.due("P28 one GUN", Check.estate("tx9y9;tx8y9;gx0").claim(0), 9);
        x = Check.estate("tx9y9;tx9y9;tx9y9;tx9y9;tx9y9;tx9y9;tx9y9;g;g;g;g;g");
        CHECK.due("P28 seven THINGS, five GUNS", x.claim(0), 123499);
        CHECK.due("P28 claim(2)", x.claim(2), NONE);
        CHECK.due("P28 claim(-1)", x.claim(-1), NONE);
        x.line(0, 8);
        CHECK.due("P28 what does not RISE is not claimed", x.claim(0), NONE);
    }

    /** REACH grows with what a GUN has TAKEN, so that there is some for what was LET BY. */
    private static void claimByLaw() {
        String law = "y:v=9?20;y:n*5-d";
        BeatenAfternoon x = Check.underLaw("tx0y0v1;tx3y0v1;tx1y9v9;gx0;gx3", law);
        CHECK.due("P28 the near one by the first", x.claim(0) + " " + x.claim(1), "1 5");
        x = Check.underLaw("tx0y0v1;tx3y0v1;tx1y9v9;gx3;gx0", law);
        CHECK.due("P28 by the second none", x.claim(0) + " " + x.claim(1), "10 5");
        x = Check.underLaw("tx0y0v1;tx3y0v1;tx1y9v9;gx3", law);
        CHECK.due("P28 the first by nobody", x.claim(0) + " " + x.claim(1), "90 5");
        x = Check.underLaw("tx3y0v1;tx0y0v1;tx1y9v9;gx3", law);
        CHECK.due("P28 by numbers", x.claim(0) + " " + x.claim(1), "9 5");
        x.wind(5);
        x.line(2, 9);
        CHECK.due("P28 nobody has TAKEN one", x.claim(0) + " " + x.claim(1), "0 0");
        x = Check.underLaw("tx3y5v1;tx0y0v1;tx1y9v9;gx3", "y:v=9?20;y:n*[5-m]");
        CHECK.due("P28 the MINUTE of each", x.claim(0) + " " + x.claim(1), "90 5");
    }

    private static final String TWO = "tx5y9v4;tx8y9v6;gx4s3;gx5s3";

    private static void game() {
        BeatenAfternoon x = Check.estate(TWO);
        int[][] one = {{0, 4, 4, 4}, {3, 3, 3, 3}, {-2, 2, 2, 2}, {3, 3, 3, -3}};
        int[][] other = {{4, -1, 4, 3}, {0, -1, 4, 3}, {4, -1, 4, 3}, {4, 3, -2, 3}};
        for (int a = 0; a < 4; a++) {
            for (int b = 0; b < 4; b++) {
                CHECK.due("P29 game(0, 1, " + a + ", " + b + ", 0)", x.game(0, 1, a, b, 0), one[a][b]);
                CHECK.due("P29 game(0, 1, " + a + ", " + b + ", 1)", x.game(0, 1, a, b, 1), other[a][b]);
                CHECK.due("P29 game(1, 0, " + b + ", " + a + ", 0)", x.game(1, 0, b, a, 0), other[a][b]);
            }
        }
        int[][] wrong = {{0, 0, 0, 0, 0}, {2, 0, 0, 0, 0}, {0, 2, 0, 0, 0}, {-1, 0, 0, 0, 0}, {0, -1, 0, 0, 0},
            {0, 1, 4, 0, 0}, {0, 1, 0, 4, 0}, {0, 1, -1, 0, 0}, {0, 1, 0, -1, 0}, {0, 1, 0, 0, 2}, {0, 1, 0, 0, -1}};
        for (int[] w : wrong) {
            CHECK.due("P29 game(" + java.util.Arrays.toString(w) + ")", x.game(w[0], w[1], w[2], w[3], w[4]), HIDDEN);
        }
        BeatenAfternoon edge = Check.estate("tx9y9v5;gx8s1;gx0s1");
        CHECK.due("P29 one step to 9", edge.game(0, 1, 1, 0, 0), 4);
        CHECK.due("P29 not beyond 9", edge.game(0, 1, 3, 0, 0), 2);
        CHECK.due("P29 nor the other", edge.game(1, 0, 0, 3, 1), 2);
    }

    private static void rests() {
        BeatenAfternoon x = Check.estate(TWO);
        CHECK.due("P30 how many", x.rests(0, 1, NONE), 2);
        CHECK.due("P30 the first", x.rests(0, 1, 0), 2);
        CHECK.due("P30 the second", x.rests(0, 1, 1), 30);
        CHECK.due("P30 rests(0, 1, 2)", x.rests(0, 1, 2), NONE);
        CHECK.due("P30 rests(0, 1, -2)", x.rests(0, 1, -2), NONE);
        CHECK.due("P30 from the other side", x.rests(1, 0, 0) + " " + x.rests(1, 0, 1), "3 20");
        CHECK.due("P30 rests(0, 0, -1)", x.rests(0, 0, NONE), NONE);
        CHECK.due("P30 rests(0, 2, -1)", x.rests(0, 2, NONE), NONE);
        CHECK.due("P30 rests(-1, 0, -1)", x.rests(-1, 0, NONE), NONE);
        BeatenAfternoon still = Check.estate("tv0;g;g");
        CHECK.due("P30 nothing to be had", still.rests(0, 1, NONE) + " " + still.rests(0, 1, 0), "1 0");
        CHECK.due("P30 none at all", restless().rests(0, 1, NONE), 0);
        CHECK.due("P30 the first of none", restless().rests(0, 1, 0), NONE);
    }

    /** One THING: the lower number wins where both reach as far, so each wants to step just past the other. */
    private static BeatenAfternoon restless() {
        return Check.estate("tx4y9v4;gx0s7;gx2s7");
    }

    private static void odds() {
        BeatenAfternoon x = Check.estate("tx5y9;gx5s1");
        CHECK.due("P31 chance 0", x.odds(0, 0), 1000000000);
        CHECK.due("P31 chance 30", x.odds(0, 30), 700000000);
        CHECK.due("P31 chance 100", x.odds(0, 100), 0);
        CHECK.due("P31 chance 101", x.odds(0, 101), NONE);
        CHECK.due("P31 chance -1", x.odds(0, -1), NONE);
        CHECK.due("P31 odds(1, 0)", x.odds(1, 0), NONE);
        CHECK.due("P31 odds(-1, 0)", x.odds(-1, 0), NONE);
        x = Check.estate("tx0y8f0;gx0s1");
        CHECK.due("P31 LOST one left of 0", x.odds(0, 0), 0);
        CHECK.due("P31 comes OVER 0", x.odds(0, 40), 400000000);
        x = Check.estate("tx0y7f0;gx0s9");
        CHECK.due("P31 LOST two left of 0", x.odds(0, 100), 0);
        x = Check.estate("tx9y9;gx9s9");
        CHECK.due("P31 one at 9 is LOST", x.odds(0, 25), 750000000);
        x = Check.estate("tx5y9;gx5s5;gx6s5");
        CHECK.due("P31 the other TAKES it", x.odds(0, 10) + " " + x.odds(1, 10), "900000000 100000000");
        x.drives(1);
        CHECK.due("P31 nothing RISES", x.odds(0, 50), 0);
    }

    private static void oddsOfMany() {
        String seven = "tx5y9;tx5y9;tx5y9;tx5y9;tx5y9;tx5y9;tx5y9;";
        BeatenAfternoon x = Check.estate(seven + "gx5s1");
        CHECK.due("P31 all seven by chance 33ths, cut", x.odds(0, 33), 1000000000 - 426184);
        x = Check.estate("sl0r4;" + seven + "gx5s1");
        CHECK.due("P31 none within the LINE", x.odds(0, 33), 0);
        x = Check.estate(seven + "gx6s1");
        // 67 of 100 go on each time: what is cut off a part stays with those that do not gust.
        long still = 1000000000;
        for (int i = 0; i < 7; i++) {
            still -= still * 33 / 100;
        }
        CHECK.due("P31 one of seven at least", x.odds(0, 33), 1000000000 - still);
    }

    private static void oddsUnderLaw() {
        BeatenAfternoon x = Check.underLaw("tx5y0;tx5y9;gx5;gx6", "y:n=0&d<2?9-d");
        // Still, the first goes to the first GUN and the second to the other; with a gust it is the other way round.
        CHECK.due("P31 each has one", x.odds(0, 50) + " " + x.odds(1, 50), "1000000000 1000000000");
        x = Check.underLaw("tx5y0;tx5y9;gx5;gx6", "y:n=1?20;y:d=0?5");
        // Who has the first has both.
        CHECK.due("P31 n within each part", x.odds(0, 20) + " " + x.odds(1, 20), "800000000 200000000");
    }

    private static void shares() {
        BeatenAfternoon x = Check.estate("tx0y9v9;tx5y9v8;tx8y9v6;gx0s9;gx8s9;gx8s9");
        CHECK.due("P32 none", x.shares(0, 100), 0);
        x.drives(1);
        CHECK.due("P32 9 of 23", x.shares(0, 100), 39);
        CHECK.due("P32 14 of 23", x.shares(1, 100), 60);
        CHECK.due("P32 0 of 23", x.shares(2, 100), 0);
        CHECK.due("P32 of 0", x.shares(0, 0), 0);
        CHECK.due("P32 of 999", x.shares(1, 999), 608);
        CHECK.due("P32 of 1000", x.shares(1, 1000), NONE);
        CHECK.due("P32 of -1", x.shares(1, -1), NONE);
        CHECK.due("P32 shares(3, 1)", x.shares(3, 1), NONE);
        CHECK.due("P32 shares(-1, 1)", x.shares(-1, 1), NONE);
    }

    private static void rising() {
        BeatenAfternoon x = Check.estate("sl2r7;tx2y4;tx1y4;tx7y4;tx8y4;tx5y9;tx5y0f0;gx5s9");
        CHECK.due("P33 rising(4)", x.rising(4), 5);
        CHECK.due("P33 rising(9)", x.rising(9), 16);
        CHECK.due("P33 a LOST one RISES", x.rising(0), 32);
        CHECK.due("P33 rising(5)", x.rising(5), 0);
        CHECK.due("P33 rising(10)", x.rising(10), NONE);
        CHECK.due("P33 rising(-1)", x.rising(-1), NONE);
        x.drives(1);
        CHECK.due("P33 those TAKEN do not", x.rising(9), 0);
    }

    private static void most() {
        BeatenAfternoon x = Check.estate("tx5y7v1;tx3y9v8;tx5y9v2;tx2y2f8v8;tx9y0f8v0;gx5s6;gx2s6;gx9s5");
        CHECK.due("P34 LAST", x.most(0), 2);
        CHECK.due("P34 FINEST", x.most(1), 1);
        CHECK.due("P34 BUSIEST", x.most(2), 5);
        CHECK.due("P34 RICHEST at first", x.most(3), 0);
        CHECK.due("P34 KEENEST", x.most(4), 0);
        CHECK.due("P34 GAP", x.most(5), 4);
        CHECK.due("P34 WHOLE", x.most(6), 19);
        CHECK.due("P34 VALUE TAKEN", x.most(7), 19);
        CHECK.due("P34 how many LET BY", x.most(8), 1);
        CHECK.due("P34 most(9)", x.most(9), NONE);
        CHECK.due("P34 most(-1)", x.most(-1), NONE);
        x.drives(1);
        CHECK.due("P34 RICHEST", x.most(3), 1);
        CHECK.due("P34 LAST of the LOST", x.most(0), 4);
        CHECK.due("P34 FINEST of no VALUE", x.most(1), 4);
        CHECK.due("P34 nothing comes over", x.most(2), NONE);
        CHECK.due("P34 WHOLE then", x.most(6), 0);
        x.practise(2);
        x.practise(2);
        CHECK.due("P34 KEENEST then", x.most(4), 2);
        x.line(0, 8);
        CHECK.due("P34 none RISES", x.most(0), NONE);
        BeatenAfternoon one = Check.estate("tx5y9;tx4y9;gx5");
        CHECK.due("P34 GAP of one GUN", one.most(5), 0);
        CHECK.due("P34 BUSIEST of several", one.most(2), 4);
        one.drives(1);
        CHECK.due("P34 none is OUT", one.most(1), NONE);
        CHECK.due("P34 GAP of GUNS at one PEG", Check.estate("t;gx3;gx3").most(5), 0);
        CHECK.due("P34 the widest GAP", Check.estate("t;gx9;gx0;gx2;gx3").most(5), 6);
    }

    private static void ahead() {
        BeatenAfternoon x = Check.estate("tx0y9v4;tx1y9v3;gx0s9");
        CHECK.due("P35 ahead(1)", x.ahead(1), 1);
        CHECK.due("P35 ahead(7)", x.ahead(7), 1);
        CHECK.due("P35 ahead(8)", x.ahead(8), 2);
        CHECK.due("P35 ahead(6993)", x.ahead(6993), 999);
        CHECK.due("P35 ahead(6994)", x.ahead(6994), NONE);
        CHECK.due("P35 ahead(0)", x.ahead(0), NONE);
        CHECK.due("P35 ahead(10000)", x.ahead(10000), NONE);
        x.drives(1);
        CHECK.due("P35 it is so", x.ahead(7), 0);
        CHECK.due("P35 never", x.ahead(8), NONE);
        x.putOut(1);
        CHECK.due("P35 3 each time", x.ahead(11), 2);
        CHECK.due("P35 as many as there can be", Check.estate("tx0y9v9;tx0y9v2;gx0").ahead(9999), 909);
        CHECK.due("P35 no ESTATE", new BeatenAfternoon().ahead(1), NONE);
    }

    /** What is only asked changes nothing. */
    private static void apart() {
        BeatenAfternoon x = Check.underLaw("sw5;tx2y3v4;tx5y2v5;tx5y5;tx8y1;gx4;gx6;gx1", "y:n*3+4-d");
        x.drives(1);
        x.putOut(0);
        String before = Check.state(x);
        x.bestLine(3, 0);
        x.bestPeg(1, 0);
        x.dealt(0);
        x.claim(0);
        x.game(0, 1, 2, 3, 0);
        x.rests(0, 2, NONE);
        x.odds(1, 50);
        x.most(7);
        x.gun(0, 3);
        x.taker(0);
        x.ahead(50);
        x.lay(0, NONE);
        x.ask(0, 1);
        CHECK.due("P21 .. P35 nothing changed", Check.state(x), before);
        CHECK.due("P21 .. P35 no STATUS", Check.refused(x), "0 0 0 0 0");
    }
}
