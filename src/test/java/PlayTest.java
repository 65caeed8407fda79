/** Promises 6 to 20 and 36 to 38: drives, acts, status, undoing, the log, years, images, counts. */
public final class PlayTest {
    private static final int NONE = BeatenAfternoon.NONE;
    private static final Check CHECK = new Check();

    public static void main(String[] args) {
        rules();
        comingOver();
        reach();
        letters();
        arithmetic();
        conditions();
        nested();
        orderOfRising();
        drives();
        bounds();
        line();
        move();
        practise();
        wind();
        putOut();
        lots();
        years();
        undoing();
        log();
        image();
        counts();
        CHECK.finish("PlayTest");
    }

    private static void rules() {
        BeatenAfternoon x = Check.estate("sw7c33l2r5;t;g");
        CHECK.due("P6 WIND", x.rule(0), 7);
        CHECK.due("P6 COINS", x.rule(1), 33);
        CHECK.due("P6 from", x.rule(2), 2);
        CHECK.due("P6 to", x.rule(3), 5);
        CHECK.due("P6 rule(4)", x.rule(4), NONE);
        CHECK.due("P6 rule(-1)", x.rule(-1), NONE);
    }

    private static void over(String thing, int wind, int want) {
        BeatenAfternoon x = Check.estate("sw" + wind + "r0;" + thing + ";g");
        CHECK.due("P7 " + thing + " in the WIND " + wind + " comes OVER", x.thing(0, 6), want);
    }

    private static void comingOver() {
        over("tx5y6f3", 4, 5);
        over("tx5y6f0", 4, 2);
        over("tx5y6f8", 4, 8);
        over("tx5y5f3", 4, 4);
        over("tx5y4f4", 0, 2);
        over("tx5y4f4", 8, 8);
        over("tx5y4f4", 3, 5);
        over("tx5y4f3", 3, 4);
        over("tx5y6f2", 2, 3);
        over("tx5y9f0", 0, 5);
        over("tx4y0f0", 4, 10);
        over("tx9y0f0", 4, 0);
        over("tx8y0f0", 4, 10);
        over("tx0y0f8", 4, 9);
        over("tx1y0f8", 4, 10);
        over("tx9y8f0", 4, 8);
        over("tx0y8f0", 4, 10);
        BeatenAfternoon x = Check.estate("t;t;g");
        CHECK.due("P7 thing(2, 0)", Check.throwsNoSuchElement(x, 2, 0), true);
        CHECK.due("P7 thing(-1, 0)", Check.throwsNoSuchElement(x, -1, 0), true);
        CHECK.due("P7 thing(0, 7)", Check.throwsNoSuchElement(x, 0, 7), true);
        CHECK.due("P7 thing(0, -1)", Check.throwsNoSuchElement(x, 0, -1), true);
        CHECK.due("P7 thing(1, 6)", Check.throwsNoSuchElement(x, 1, 6), false);
        CHECK.due("P7 no STATUS", Check.refused(x), "0 0 0 0 0");
    }

    private static void reach() {
        CHECK.due("P21 SKILL 5, two away", Check.estate("tx5y9;gx3s5").taker(0), 0);
        CHECK.due("P21 SKILL 5, three away", Check.estate("tx5y9;gx2s5").taker(0), NONE);
        CHECK.due("P21 SKILL 4, two away", Check.estate("tx5y9;gx3s4").taker(0), NONE);
        CHECK.due("P21 SKILL 0", Check.estate("tx5y9;gx5s0").taker(0), NONE);
        CHECK.due("P21 the greatest", Check.estate("tx5y9;gx4s6;gx5s5;gx6s8").taker(0), 2);
        CHECK.due("P21 of several the lowest", Check.estate("tx5y9;gx5s1;gx4s7;gx5s5").taker(0), 1);
        CHECK.due("P21 not within the LINE", Check.estate("sl6;tx5y9;gx5").taker(0), NONE);
        CHECK.due("P21 at the LINE's end", Check.estate("sl5r5;tx5y9;gx5").taker(0), 0);
        CHECK.due("P21 LOST", Check.underLaw("tx9y0f8;gx9", "y:20").taker(0), NONE);
        CHECK.due("P21 taker(1)", Check.estate("tx5y9;gx5").taker(1), NONE);
        CHECK.due("P21 taker(-1)", Check.estate("tx5y9;gx5").taker(-1), NONE);
    }

    private static void taken(String law, boolean want) {
        BeatenAfternoon x = Check.underLaw("tx5y6f4v7k2;gx3s8", law);
        CHECK.due("P9 under " + law, x.taker(0) == 0, want);
    }

    private static void letters() {
        taken("y:v-6", true);
        taken("y:v-7", false);
        taken("y:k-1", true);
        taken("y:k-2", false);
        taken("y:d-1", true);
        taken("y:d-2", false);
        taken("y:s-7", true);
        taken("y:s-8", false);
        taken("y:m-5", true);
        taken("y:m-6", false);
        taken("y:n+1", true);
        taken("y:n", false);
        BeatenAfternoon x = Check.underLaw("tx1y9;tx1y9;tx1y9;gx0;gx9", "y:n=0?5");
        CHECK.due("P9 n: the first", x.taker(0), 0);
        CHECK.due("P9 n: the second", x.taker(1), 1);
        CHECK.due("P9 n: the third", x.taker(2), NONE);
        x.drives(1);
        CHECK.due("P9 n counts within one DRIVE", x.taker(2), 0);
        x.law(NONE);
        CHECK.due("P9 no LAW holds", x.taker(2), 0);
        CHECK.due("P9 REACH is 20 at most", Check.underLaw("tx5y9;gx5s3;gx5s9", "y:s*10").taker(0), 0);
        CHECK.due("P9 below 20 the greatest", Check.underLaw("tx5y9;gx5s1;gx5s2", "y:s*10").taker(0), 1);
    }

    private static void arithmetic() {
        taken("y:9-5-3", true);
        taken("y:9-5-4", false);
        taken("y:9-[5-4]", true);
        taken("y:8/4*2-3", true);
        taken("y:8/4*2-4", false);
        taken("y:2+3*4-13", true);
        taken("y:2+3*4-14", false);
        taken("y:[2+3]*4-19", true);
        taken("y:[0-7]/2+4", true);
        taken("y:[0-7]/2+3", false);
        taken("y:5/0+1", true);
        taken("y:5/0", false);
        taken("y:9999*9999-9999*100-99", true);
        taken("y:9999*9999-9999*100-100", false);
        taken("y:0-9999*9999+9999*100+101", true);
        taken("y:0-9999*9999+9999*100+100", false);
        taken("y:9999*100+9999-9999*100-99", true);
        taken("y:9999*100+9999-9999*100-100", false);
        taken("y:9999*9999*9999*9999", true);
    }

    private static void conditions() {
        taken("y:v=7?1", true);
        taken("y:v=6?1", false);
        taken("y:v<8?1", true);
        taken("y:v<7?1", false);
        taken("y:v>6?1", true);
        taken("y:v>7?1", false);
        taken("y:v=7&k=2?1", true);
        taken("y:v=7&k=1?1", false);
        taken("y:v=1|k=2?1", true);
        taken("y:v=1|k=1?1", false);
        taken("y:v=7|k=1&d=9?1", true);
        taken("y:(v=7|k=1)&d=9?1", false);
        taken("y:!v=7|k=2?1", true);
        taken("y:!(v=7|k=2)?1", false);
        taken("y:!!v=7?1", true);
        taken("y:!v=7&k=2?1", false);
        taken("y:v=7?0;y:5", false);
        taken("y:v=6?0;y:5", true);
        taken("y:v=6?5;y:k=1?5;y:d=2?1;y:0", true);
        taken("y:1;y:0", true);
        taken("y:0;y:1", false);
    }

    private static void nested() {
        String brackets = "(0=1|0=0&".repeat(6);
        taken("y:0=1|0=0&" + brackets + "3=1+1*2))))))?1", true);
        taken("y:0=1|0=0&" + brackets + "3=1+1*3))))))?1", false);
        String sums = "1+1*[".repeat(6);
        taken("y:" + sums + "1+1*1]]]]]]-7", true);
        taken("y:" + sums + "1+1*1]]]]]]-8", false);
        taken("y:!!!!!!v=7?1", true);
        taken("y:!!!!!v=7?1", false);
        String longest = "y:" + "v=7&".repeat(58) + "v=7?1";
        CHECK.due("P5 a LAW of nearly 240 bytes", longest.length(), 239);
        taken(longest, true);
        taken(longest.replace("v=7?", "v=6?"), false);
        taken("y:1" + "+0".repeat(118) + " ", true);
        taken("y:0;".repeat(59) + "y:1", false);
        taken("y:v=6?0;".repeat(29) + "y:v=7?1", true);
    }

    private static void orderOfRising() {
        String things = "tx5y8v1;tx5y2v2;tx5y8v3;tx6y0v4";
        BeatenAfternoon x = Check.underLaw(things + ";gx5", "y:n<2?5");
        CHECK.due("P10 the minutes come first", x.taker(3) + " " + x.taker(1) + " " + x.taker(0) + " " + x.taker(2), "0 0 -1 -1");
        CHECK.due("P8 VALUE", x.gun(0, 3), 6);
        CHECK.due("P8 how many", x.gun(0, 4), 2);
        x = Check.underLaw(things + ";gx5", "y:n<3?5");
        CHECK.due("P10 of one MINUTE by numbers", x.taker(0) + " " + x.taker(2), "0 -1");
    }

    private static void drives() {
        BeatenAfternoon x = Check.estate("tx0y9v9;tx5y9v8;tx9y0f8v7;tx8y9v6;gx0s9;gx8s9;gx8s9");
        CHECK.due("P8 before", x.gun(0, 2) + " " + x.gun(0, 3) + " " + x.gun(0, 4), "0 9 1");
        CHECK.due("P8 the second has two", x.gun(1, 3) + " " + x.gun(1, 4), "14 2");
        CHECK.due("P8 the third has none", x.gun(2, 3) + " " + x.gun(2, 4), "0 0");
        CHECK.due("P10 drives(1)", x.drives(1), 1);
        CHECK.due("P10 BAGS", x.gun(0, 2) + " " + x.gun(1, 2) + " " + x.gun(2, 2), "9 14 0");
        CHECK.due("P10 who is OUT", x.count(7), 4);
        CHECK.due("P10 COINS", x.rule(1), 23);
        CHECK.due("P20 LOG", x.log(0, 0) + " " + x.log(0, 1) + " " + x.log(0, 2), "11 4 23");
        CHECK.due("P10 drives(2)", x.drives(2), 3);
        CHECK.due("P10 an ACT for each", x.count(11), 3);
        CHECK.due("P20 the latest", x.log(0, 0) + " " + x.log(0, 1) + " " + x.log(0, 2), "0 4 0");
        CHECK.due("P20 the first", x.log(2, 0) + " " + x.log(2, 1) + " " + x.log(2, 2), "11 4 23");
        CHECK.due("P8 gun(3, 0)", x.gun(3, 0), NONE);
        CHECK.due("P8 gun(-1, 0)", x.gun(-1, 0), NONE);
        CHECK.due("P8 gun(0, 5)", x.gun(0, 5), NONE);
        CHECK.due("P8 gun(0, -1)", x.gun(0, -1), NONE);
    }

    private static void bounds() {
        BeatenAfternoon x = Check.estate("sc99;tx0y9v9;gx0");
        CHECK.due("P10 drives(0)", x.drives(0), NONE);
        CHECK.due("P10 drives(61)", x.drives(61), NONE);
        CHECK.due("P10 drives(least)", x.drives(Integer.MIN_VALUE), NONE);
        CHECK.due("P18 out of bounds", Check.refused(x), "0 3 0 0 0");
        for (int i = 1; i <= 16; i++) {
            CHECK.due("P10 drives(60)", x.drives(60), 60 * i);
        }
        CHECK.due("P10 COINS 999 at most", x.rule(1), 999);
        CHECK.due("P10 beyond the last DAY", x.drives(40), NONE);
        CHECK.due("P17 years beyond the last DAY", x.years(40, 1), NONE);
        CHECK.due("P10 unchanged", x.count(5), 960);
        CHECK.due("P10 to the last DAY", x.drives(39), 999);
        CHECK.due("P10 none goes by then", x.drives(1), NONE);
        CHECK.due("P17 nor by YEARS", x.years(1, 1), NONE);
        CHECK.due("P10 out of bounds comes first", x.drives(61), NONE);
        CHECK.due("P18 beyond the last DAY", Check.refused(x), "0 4 0 0 2");
        x.undo();
        CHECK.due("P17 years to the last DAY", x.years(1, 1), 999);
        CHECK.due("P20 the LOG is 60 long", x.count(10), 60);
        CHECK.due("P20 log(59, 0)", x.log(59, 0), 0);
        CHECK.due("P20 log(60, 0)", x.log(60, 0), NONE);
        bags();
    }

    private static void bags() {
        BeatenAfternoon x = Check.estate("tx0y9v9;tx0y9v9;tx0y9v9;tx0y9v9;tx0y9v9;tx0y9v9;tx0y9v9;gx0s9");
        x.lots(0);
        for (int i = 0; i < 15; i++) {
            x.years(60, i);
        }
        CHECK.due("P17 seven at first, then one each year", x.gun(0, 2), 63 + 899 * 9);
        for (int i = 0; i < 29; i++) {
            allOutAndDriven(x);
        }
        CHECK.due("P10 a BAG nearly full", x.gun(0, 2), 9981);
        CHECK.due("P35 ahead(9999) for what is TAKEN already", x.ahead(9999), NONE);
        allOutAndDriven(x);
        CHECK.due("P10 a full BAG", x.gun(0, 2), 9999);
        CHECK.due("P38 BAGS of all", x.count(6), 9999);
        CHECK.due("P20 the LOG tells all", x.log(0, 2), 63);
        CHECK.due("P35 ahead(9999)", x.ahead(9999), 0);
        x.undo();
        CHECK.due("P19 the BAG is UNDONE", x.gun(0, 2), 9981);
    }

    private static void allOutAndDriven(BeatenAfternoon x) {
        for (int thing = 0; thing < 7; thing++) {
            x.putOut(thing);
        }
        x.drives(1);
    }

    private static void line() {
        BeatenAfternoon x = Check.estate("tx3y9;tx5y9;gx4");
        CHECK.due("P11 line(3, 4)", x.line(3, 4), 2);
        CHECK.due("P11 what it is", x.rule(2) + " " + x.rule(3), "3 4");
        CHECK.due("P11 who RISES", x.rising(9), 1);
        CHECK.due("P11 line(5, 5)", x.line(5, 5), 1);
        CHECK.due("P11 line(0, 9)", x.line(0, 9), 10);
        int[][] wrong = {{-1, 4}, {0, 10}, {5, 4}, {10, 10}, {Integer.MIN_VALUE, Integer.MAX_VALUE}};
        for (int[] w : wrong) {
            CHECK.due("P11 line(" + w[0] + ", " + w[1] + ")", x.line(w[0], w[1]), NONE);
        }
        CHECK.due("P11 it is so", x.line(0, 9), NONE);
        CHECK.due("P18 of the LINE", Check.refused(x), "0 5 1 0 0");
        CHECK.due("P11 ACTS", x.count(11), 3);
        CHECK.due("P11 no COINS", x.rule(1), 20);
    }

    private static void move() {
        BeatenAfternoon x = Check.estate("sc6;t;gx2;gx7");
        CHECK.due("P12 move(0, 4)", x.move(0, 4), 4);
        CHECK.due("P12 move(1, 4)", x.move(1, 4), 1);
        CHECK.due("P12 PEGS", x.gun(0, 0) + " " + x.gun(1, 0), "4 4");
        CHECK.due("P12 move(0, 3)", x.move(0, 3), 0);
        CHECK.due("P12 too few", x.move(0, 4), NONE);
        CHECK.due("P12 it is so", x.move(0, 3), NONE);
        CHECK.due("P12 move(0, 10)", x.move(0, 10), NONE);
        CHECK.due("P12 move(0, -1)", x.move(0, -1), NONE);
        CHECK.due("P12 move(2, 10)", x.move(2, 10), NONE);
        CHECK.due("P12 move(-1, 3)", x.move(-1, 3), NONE);
        CHECK.due("P18 of PEGS", Check.refused(x), "2 2 1 1 0");
        CHECK.due("P12 PEGS then", x.gun(0, 0) + " " + x.gun(1, 0) + " " + x.rule(1) + " " + x.count(11), "3 4 0 3");
    }

    private static void practise() {
        BeatenAfternoon x = Check.estate("sc8;t;gs7;gs5");
        CHECK.due("P13 practise(0)", x.practise(0), 8);
        CHECK.due("P13 COINS", x.rule(1), 5);
        CHECK.due("P13 practise(0) again", x.practise(0), 9);
        CHECK.due("P13 nine", x.practise(0), NONE);
        CHECK.due("P13 too few", x.practise(1), NONE);
        CHECK.due("P13 practise(2)", x.practise(2), NONE);
        CHECK.due("P13 practise(-1)", x.practise(-1), NONE);
        CHECK.due("P18 of practising", Check.refused(x), "2 0 1 1 0");
        CHECK.due("P13 SKILL then", x.gun(0, 1) + " " + x.gun(1, 1) + " " + x.rule(1) + " " + x.count(11), "9 5 2 2");
        x.drives(1);
        CHECK.due("P13 enough again", x.practise(1), 6);
        BeatenAfternoon exact = Check.estate("sc3;t;g");
        CHECK.due("P13 just enough", exact.practise(0), 6);
    }

    private static void wind() {
        BeatenAfternoon x = Check.estate("sw3;tx0y3;gx0");
        CHECK.due("P14 wind(8)", x.wind(8), 3);
        CHECK.due("P14 OVER then", x.thing(0, 6), 4);
        CHECK.due("P14 wind(0)", x.wind(0), 8);
        CHECK.due("P14 it is so", x.wind(0), NONE);
        CHECK.due("P14 wind(9)", x.wind(9), NONE);
        CHECK.due("P14 wind(-1)", x.wind(-1), NONE);
        CHECK.due("P18 of the WIND", Check.refused(x), "0 2 1 0 0");
        CHECK.due("P14 WIND then", x.rule(0) + " " + x.rule(1) + " " + x.count(11), "0 20 2");
    }

    private static void putOut() {
        BeatenAfternoon x = Check.estate("sc0;tx0y9;tx9y9;gx0s9");
        CHECK.due("P15 it is OUT", x.putOut(0), NONE);
        x.drives(1);
        CHECK.due("P7 TAKEN", x.thing(0, 5) + " " + x.thing(1, 5), "0 1");
        CHECK.due("P15 putOut(0)", x.putOut(0), 1);
        CHECK.due("P7 OUT", x.thing(0, 5), 1);
        CHECK.due("P15 it is OUT again", x.putOut(0), NONE);
        CHECK.due("P15 putOut(2)", x.putOut(2), NONE);
        CHECK.due("P15 putOut(-1)", x.putOut(-1), NONE);
        CHECK.due("P18 of putting out", Check.refused(x), "2 0 2 0 0");
        BeatenAfternoon poor = Check.estate("sc1;tx0y9;tx0y9;tx0y9;gx0s9");
        poor.drives(1);
        CHECK.due("P15 the first", poor.putOut(2), 2);
        CHECK.due("P15 just enough", poor.putOut(1), 0);
        CHECK.due("P15 too few", poor.putOut(0), NONE);
        CHECK.due("P18 too few", Check.refused(poor), "0 0 0 1 0");
        CHECK.due("P15 who is OUT", poor.count(7), 6);
    }

    private static void lots() {
        BeatenAfternoon x = new BeatenAfternoon();
        CHECK.due("P16 lots(2) at first", x.lots(2), false);
        CHECK.due("P16 lots(0)", x.lots(0), true);
        CHECK.due("P16 lots(0) again", x.lots(0), false);
        CHECK.due("P16 lots(9)", x.lots(9), true);
        CHECK.due("P16 lots(10)", x.lots(10), false);
        CHECK.due("P16 lots(-1)", x.lots(-1), false);
        CHECK.due("P38 LOTS", x.count(8), 9);
        CHECK.due("P16 no STATUS", Check.refused(x), "0 0 0 0 0");
    }

    private static void years() {
        // The draws of the seed 7 (x shifted): 1059165278, 2052263231, 1946856753, 585718673, 572045545, ...
        BeatenAfternoon x = Check.estate("tx0y9;tx1y9;tx2y9;gx0s9;gx9s9");
        x.lots(9);
        CHECK.due("P17 years(1, 7)", x.years(1, 7), 1);
        CHECK.due("P17 WIND", x.rule(0), 8);
        CHECK.due("P17 PEGS", x.gun(0, 0) + " " + x.gun(1, 0), "0 5");
        CHECK.due("P17 LOG", x.log(0, 0) + " " + x.log(0, 1) + " " + x.log(0, 2), "7 0 9");
        CHECK.due("P17 COINS", x.rule(1), 23);
        CHECK.due("P17 years(1, 7) again", x.years(1, 7), 2);
        CHECK.due("P17 what was put OUT", x.log(0, 0) + " " + x.log(0, 2) + " " + x.count(7), "4 3 0");
        CHECK.due("P17 for nothing", x.rule(1), 26);
        CHECK.due("P17 ACTS", x.count(11), 2);
        CHECK.due("P19 undo()", x.undo(), 1);
        CHECK.due("P19 as it was", Check.state(x), "3 2 0 0 -1 1 9 0 9 0 1 1 8 23 0 9 0,9,9 5,9,0 7/0/9 ");
        x.undo();
        CHECK.due("P19 at first", Check.state(x), "3 2 0 0 -1 0 0 7 9 0 0 0 4 20 0 9 0,9,0 9,9,0 ");
        x.lots(3);
        // 1946856753 modulo 10 is 3, which is not below 3: no PEG is drawn, and 585718673 modulo 9 is the next WIND.
        CHECK.due("P17 years(2, 7)", x.years(2, 7), 2);
        CHECK.due("P17 PEGS stay", x.gun(0, 0) + " " + x.gun(1, 0), "0 9");
        CHECK.due("P17 the second WIND", x.rule(0), 5);
        CHECK.due("P17 the second THING", x.log(0, 0) + " " + x.log(1, 0), "2 7");
        wrongYears(x);
        CHECK.due("P17 a seed below 0: WIND", windOfYear(-1), 4);
        CHECK.due("P17 seed 0: WIND", windOfYear(0), 8);
        CHECK.due("P17 seed 12345: WIND", windOfYear(12345), 7);
        CHECK.due("P17 no ESTATE", new BeatenAfternoon().years(1, 1), NONE);
    }

    private static int windOfYear(long seed) {
        BeatenAfternoon x = Check.estate("t;g");
        x.years(1, seed);
        return x.rule(0);
    }

    private static void wrongYears(BeatenAfternoon x) {
        String before = Check.state(x);
        CHECK.due("P17 years(0, 1)", x.years(0, 1), NONE);
        CHECK.due("P17 years(61, 1)", x.years(61, 1), NONE);
        CHECK.due("P17 years(-5, 1)", x.years(-5, 1), NONE);
        CHECK.due("P17 nothing changed", Check.state(x), before);
        CHECK.due("P17 no STATUS", Check.refused(x), "0 0 0 0 0");
        CHECK.due("P17 years(60, 1)", x.years(60, 1), 62);
    }

    private static void undoing() {
        BeatenAfternoon x = Check.estate("sc50;tx0y9v4;tx9y9;gx0;gx5");
        String[] states = new String[7];
        for (int i = 0; i < 6; i++) {
            states[i] = Check.state(x);
            switch (i) {
                case 0: x.drives(1); break;
                case 1: x.line(2, 3); break;
                case 2: x.move(1, 9); break;
                case 3: x.practise(0); break;
                case 4: x.wind(1); break;
                default: x.putOut(0); break;
            }
        }
        x.putOut(0);
        for (int i = 5; i >= 0; i--) {
            CHECK.due("P19 undo() leaves " + i, x.undo(), i);
            CHECK.due("P19 as it was ahead of ACT " + i, Check.state(x), states[i]);
        }
        CHECK.due("P19 none", x.undo(), NONE);
        CHECK.due("P19 STATUS is not UNDONE", Check.refused(x), "0 0 1 0 0");
        for (int i = 0; i < 45; i++) {
            x.wind(i % 2);
        }
        CHECK.due("P19 the latest 40", x.count(11), 40);
        for (int i = 39; i >= 0; i--) {
            CHECK.due("P19 undo() of many leaves " + i, x.undo(), i);
        }
        CHECK.due("P19 no more", x.undo(), NONE);
        CHECK.due("P19 the WIND that was", x.rule(0), 0);
    }

    private static void log() {
        BeatenAfternoon x = Check.estate("sc99;tx0y9v4;tx9y9v5;gx0");
        x.drives(1);
        x.line(0, 0);
        x.drives(58);
        x.line(0, 9);
        x.drives(1);
        CHECK.due("P20 the first of 60", x.log(59, 0) + " " + x.log(59, 1) + " " + x.log(59, 2), "1 2 4");
        CHECK.due("P20 the latest", x.log(0, 0) + " " + x.log(0, 1) + " " + x.log(0, 2), "0 2 0");
        CHECK.due("P20 between", x.log(1, 1) + " " + x.log(58, 1), "0 0");
        x.drives(38);
        CHECK.due("P20 the first is gone", x.log(59, 0), 0);
        for (int i = 0; i < 39; i++) {
            x.undo();
        }
        CHECK.due("P19 the LOG is UNDONE too", x.count(10), 59);
        CHECK.due("P19 with what had gone", x.log(58, 0) + " " + x.log(58, 2), "1 4");
        CHECK.due("P20 log(59, 0)", x.log(59, 0), NONE);
        CHECK.due("P20 log(-1, 0)", x.log(-1, 0), NONE);
        CHECK.due("P20 log(0, 3)", x.log(0, 3), NONE);
        CHECK.due("P20 log(0, -1)", x.log(0, -1), NONE);
    }

    private static void image() {
        BeatenAfternoon x = Check.estate("sc50;tx0y9v4;tx9y9v2;gx0;gx5");
        CHECK.due("P37 no IMAGE", x.back(), NONE);
        x.drives(2);
        x.seen(0, 1, 2, true);
        CHECK.due("P36 image()", x.image(), 2);
        String before = Check.state(x);
        x.line(1, 9);
        x.move(1, 9);
        x.practise(0);
        x.putOut(0);
        x.years(60, 5);
        x.drives(60);
        x.drives(60);
        CHECK.due("P37 back()", x.back(), 2);
        String noActs = before.replaceFirst("^(\\S+ \\S+ \\S+ \\S+ \\S+ \\S+ \\S+ \\S+ \\S+ \\S+ \\S+) \\S+ ", "$1 0 ");
        CHECK.due("P37 as it was", Check.state(x), noActs);
        CHECK.due("P37 no ACT can be UNDONE", x.undo(), NONE);
        x.lots(5);
        x.wind(0);
        x.drives(1);
        CHECK.due("P37 back() once more", x.back(), 2);
        CHECK.due("P37 LOTS stay", x.count(8), 5);
        CHECK.due("P37 as it was once more", x.rule(0), 4);
        x.drives(3);
        CHECK.due("P36 another IMAGE", x.image(), 5);
        x.undo();
        x.undo();
        x.wind(7);
        x.drives(1);
        CHECK.due("P37 back() to a later DAY", x.back(), 5);
        CHECK.due("P37 SEEN stay", x.count(9), 1);
        CHECK.due("P37 its LOG", x.count(10) + " " + x.log(4, 0) + " " + x.log(0, 1), "5 1 2");
        CHECK.due("P36 no ESTATE", new BeatenAfternoon().image(), NONE);
    }

    private static void counts() {
        BeatenAfternoon x = Check.underLaw("tx0y9v4;tx9y9v2;tx5y9;gx0;gx8", "y:d<2?1");
        Check.enact(x, "y:1");
        Check.feed(x, "abc");
        x.lots(4);
        x.seen(0, 0, 0, true);
        x.seen(0, 0, 0, true);
        x.drives(2);
        x.wind(0);
        int[] want = {3, 2, 2, 3, 0, 2, 6, 4, 4, 2, 2, 3};
        for (int what = 0; what < want.length; what++) {
            CHECK.due("P38 count(" + what + ")", x.count(what), want[what]);
        }
        CHECK.due("P38 count(12)", x.count(12), BeatenAfternoon.HIDDEN);
        CHECK.due("P38 count(-1)", x.count(-1), BeatenAfternoon.HIDDEN);
        CHECK.due("P18 status(5)", x.status(5), NONE);
        CHECK.due("P18 status(-1)", x.status(-1), NONE);
        BeatenAfternoon none = new BeatenAfternoon();
        none.drives(61);
        none.line(5, 4);
        none.move(0, 10);
        none.practise(0);
        none.wind(9);
        none.putOut(0);
        CHECK.due("P18 of several the first", Check.refused(none), "6 0 0 0 0");
    }
}
