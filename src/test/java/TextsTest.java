/** Promises 1 to 5: a new object, the tape, faults, texts. */
public final class TextsTest {
    private static final int NONE = BeatenAfternoon.NONE;
    private static final Check CHECK = new Check();

    public static void main(String[] args) {
        newObject();
        feeding();
        ending();
        estateFaults();
        numberFaults();
        manyClauses();
        lawFaults();
        conditionFaults();
        nesting();
        sorts();
        newEstate();
        newLaws();
        refusedTexts();
        CHECK.finish("TextsTest");
    }

    private static void newObject() {
        BeatenAfternoon x = new BeatenAfternoon();
        int[] want = {0, 0, 0, 0, NONE, 0, 0, 0, 2, 0, 0, 0};
        for (int what = 0; what < want.length; what++) {
            CHECK.due("P1 count(" + what + ")", x.count(what), want[what]);
        }
        CHECK.due("P1 rule(0)", x.rule(0), NONE);
        CHECK.due("P1 status", Check.refused(x), "0 0 0 0 0");
        CHECK.due("P1 thing(0, 0) throws", Check.throwsNoSuchElement(x, 0, 0), true);
        CHECK.due("P1 gun(0, 0)", x.gun(0, 0), NONE);
        CHECK.due("P1 undo()", x.undo(), NONE);
        CHECK.due("P1 back()", x.back(), NONE);
        CHECK.due("P1 log(0, 0)", x.log(0, 0), NONE);
    }

    private static void feeding() {
        BeatenAfternoon x = new BeatenAfternoon();
        CHECK.due("P2 nothing but zeros", x.feed(0, 0, 0, 0, 0), 0);
        CHECK.due("P2 zeros left out", x.feed('t' << 24, ';' << 16, 0, 'g' << 8, 'x'), 4);
        CHECK.due("P2 the order over five numbers", x.fault(0), 4);
        CHECK.due("P2 the order within one", x.feed('5' << 24 | 's' << 16 | '7' << 8, 0, 0, 0, 0), 7);
        CHECK.due("P2 what it then is", x.text(0), 1);
        CHECK.due("P2 PEG", x.gun(0, 0), 5);
        CHECK.due("P2 SKILL", x.gun(0, 1), 7);
        CHECK.due("P2 bytes above 127 count", x.feed(-1, -1, -1, -1, -1), 20);
        for (int i = 2; i <= 12; i++) {
            CHECK.due("P2 twenty more", x.feed(-1, 0x20202020, 0x01010101, -1, -1), 20 * i);
        }
        CHECK.due("P2 one more than 240", x.feed(0, 0, 0, 0, 1), NONE);
        CHECK.due("P2 none more than 240", x.feed(0, 0, 0, 0, 0), 240);
        CHECK.due("P2 unchanged", x.count(3), 240);
        x.end(239);
        CHECK.due("P2 two more than 239", x.feed(1, 0, 0, 0, 1), NONE);
        CHECK.due("P2 unchanged again", x.count(3), 239);
        CHECK.due("P2 one more than 239", x.feed(0, 0, 256, 0, 0), 240);
        BeatenAfternoon y = new BeatenAfternoon();
        Check.feed(y, "t;g" + " ".repeat(230));
        y.feed('q' << 24 | 'q' << 16 | 'q' << 8 | 'q', 'q' << 24 | 'q' << 16 | 'q' << 8 | 'q', 0, 0, 0);
        CHECK.due("P2 a refused feed leaves the TAPE", y.fault(0), NONE);
    }

    private static void ending() {
        BeatenAfternoon x = new BeatenAfternoon();
        Check.feed(x, "t;g;zz");
        CHECK.due("P3 end(-1)", x.end(-1), false);
        CHECK.due("P3 end(7)", x.end(7), false);
        CHECK.due("P3 end(least)", x.end(Integer.MIN_VALUE), false);
        CHECK.due("P3 unchanged", x.count(3), 6);
        CHECK.due("P3 end(6)", x.end(6), true);
        CHECK.due("P3 as long as it was", x.count(3), 6);
        CHECK.due("P3 end(3)", x.end(3), true);
        CHECK.due("P3 the first three", x.fault(0), NONE);
        CHECK.due("P3 what was cut is gone", x.end(4), false);
        CHECK.due("P3 end(0)", x.end(0), true);
        CHECK.due("P3 empty", x.count(3), 0);
        CHECK.due("P3 end(0) of none", x.end(0), true);
    }

    private static void estate(String text, int want) {
        CHECK.due("P4 as an ESTATE: \"" + text + "\"", Check.fault(text, 0), want);
    }

    private static void estateFaults() {
        estate("t;g", NONE);
        estate("g;t", NONE);
        estate("", 0);
        estate("  ", 2);
        estate("  t  ;  g  ", NONE);
        estate("t", 1);
        estate("t ", 2);
        estate("g", 1);
        estate("s", 1);
        estate("s;t", 3);
        estate("t;", 2);
        estate("t;g;", 4);
        estate("t;;g", 2);
        estate(";t;g", 0);
        estate("t g", 2);
        estate("t;gs", 4);
        estate("t;gs5", NONE);
        estate("t;g s 5 x 1", NONE);
        estate("T;g", 0);
        estate("t\tx1;g", 1);
        estate("t;g\n", 3);
        estate("t;g" + (char) 233, 3);
        estate("tw1;g", 1);
        estate("tx1y2f3v4k3;g", NONE);
        estate("tk3v4f3y2x1;g", NONE);
        estate("t;gk1", 3);
        estate("sx1;t;g", 1);
        estate("sw1c2l3r4;t;g", NONE);
        estate("tx1x2;g", 3);
        estate("tx1;tx2;gx1;gx2", NONE);
        estate("t;gx1s2x3", 7);
        estate("s;s;t;g", 2);
        estate("t;g;s;s", 6);
        estate("sl5r4;t;g", 9);
        estate("t;g;sr4l5 ", 10);
        estate("sl5r5;t;g", NONE);
        estate("sl5r4;t;q", 8);
        estate("sl9;t;g", NONE);
        estate("sr0;t;g", NONE);
    }

    private static void numberFaults() {
        estate("tx;g", 2);
        estate("tx", 2);
        estate("txy1", 2);
        estate("tx-1", 2);
        estate("tx1 2;g", 4);
        estate("tx 1;g", NONE);
        estate("tx09;g", NONE);
        estate("tx10;g", 3);
        estate("tx99;g", 3);
        estate("tx001;g", 4);
        estate("tx100;g", 4);
        estate("tx9999;g", 4);
        estate("ty9;g", NONE);
        estate("ty10;g", 3);
        estate("tf8;g", NONE);
        estate("tf9;g", 2);
        estate("tf09;g", 3);
        estate("tv9;g", NONE);
        estate("tv10;g", 3);
        estate("tk3;g", NONE);
        estate("tk4;g", 2);
        estate("t;gx9", NONE);
        estate("t;gx10", 5);
        estate("t;gs9", NONE);
        estate("t;gs10", 5);
        estate("sw8;t;g", NONE);
        estate("sw9;t;g", 2);
        estate("sc99;t;g", NONE);
        estate("sc100;t;g", 4);
        estate("sl9;t;g", NONE);
        estate("sl10;t;g", 3);
        estate("sr9;t;g", NONE);
        estate("sr10;t;g", 3);
    }

    private static void manyClauses() {
        estate("t;".repeat(7) + "g", NONE);
        estate("t;".repeat(8) + "g", 14);
        estate("g;".repeat(5) + "t", NONE);
        estate("g;".repeat(6) + "t", 10);
        estate("t;".repeat(7) + "g;".repeat(4) + "g ; s", NONE);
        estate("t;".repeat(7) + "g;".repeat(5) + "s;t", 26);
    }

    private static void law(String text, int want) {
        CHECK.due("P4 as a LAW: \"" + text + "\"", Check.fault(text, 1), want);
    }

    private static void lawFaults() {
        law("", 0);
        law("  ", 2);
        law("y", 1);
        law("y:", 2);
        law("y1", 1);
        law("x:1", 0);
        law("y:1", NONE);
        law(" y : 1 ", NONE);
        law("y:1;", 4);
        law("y:1;y:2", NONE);
        law("y:1;;", 4);
        law("y:1y:2", 3);
        law("y:9999", NONE);
        law("y:0000", NONE);
        law("y:12345", 6);
        law("y:00001", 6);
        law("y:1 2", 4);
        law("y:v+k-d*s/m+n", NONE);
        law("y:x", 2);
        law("y:vk", 3);
        law("y:-1", 2);
        law("y:1+", 4);
        law("y:1+-1", 4);
        law("y:[1+2]*3", NONE);
        law("y:[1", 4);
        law("y:[]", 3);
        law("y:1]", 3);
        law("y:1)", 3);
        law("y:[1)", 4);
        law("y:[!v]", 3);
        law("y:1+(v=1)", 4);
        law("y:\t1", 2);
    }

    private static void conditionFaults() {
        law("y:v=1?2", NONE);
        law("y:v = 1 ? 2 ; y : v < 3 ? 4 ; y : v > 5 ? 6", NONE);
        law("y:?", 2);
        law("y:v?2", 3);
        law("y:v=1", 5);
        law("y:v=1;", 5);
        law("y:v=1?", 6);
        law("y:v=1?;", 6);
        law("y:v=", 4);
        law("y:v=?", 4);
        law("y:v=1=2", 5);
        law("y:v==1", 4);
        law("y:v=1?k=2", 7);
        law("y:v=1?2?3", 7);
        law("y:(v)", 4);
        law("y:(v=1)", 7);
        law("y:(v=1);", 7);
        law("y:(v=1)+1", 7);
        law("y:(v=1)=1", 7);
        law("y:(v=1)?2", NONE);
        law("y:(v=1?2", 6);
        law("y:(v=1", 6);
        law("y:()", 3);
        law("y:!v", 4);
        law("y:!v;", 4);
        law("y:!v=1?3", NONE);
        law("y:!!v=1?3", NONE);
        law("y:!;", 3);
        law("y:v=1&k=2|d<3&(s>4|!m=5)?n", NONE);
        law("y:v&k=1?2", 3);
        law("y:v=1&k?2", 7);
        law("y:v=1&?2", 6);
        law("y:v=1|;", 6);
        law("y:[v=1]", 4);
        law("y:[v]=[k]?[d]", NONE);
        law("y:v=1&[k]=2?3", NONE);
    }

    private static void nesting() {
        law("y:[[[[[[v]]]]]]", NONE);
        law("y:[[[[[[[v]]]]]]]", 8);
        law("y:((((((v=1))))))?1", NONE);
        law("y:(((((((v=1)))))))?1", 8);
        law("y:!!!!!!v=1?1", NONE);
        law("y:!!!!!!!v=1?1", 8);
        law("y:!(!(!(v=1)))?1", NONE);
        law("y:!(!(!([v]=1)))?1", 8);
        law("y:!(!([[v]]=1))?1", NONE);
        law("y:!(!([[[v]]]=1))?1", 8);
        law("y:!!!v=1&!!!!!!k=1?1", NONE);
        law("y:!!!!!!v=1&k=[1]?1", NONE);
        law("y:!!!!!!v=[1]?1", 10);
        law("y:(((v=1)))|((((((k=1))))))?1", NONE);
        law("y:((((((v=1))))))?[[[[[[1]]]]]]", NONE);
        law("y:[v]+[k]+[d]+[s]+[m]+[n]+[v]+[[[[[[k]]]]]]", NONE);
    }

    private static void sorts() {
        BeatenAfternoon x = new BeatenAfternoon();
        Check.feed(x, "t;g");
        CHECK.due("P4 fault(2)", x.fault(2), -2);
        CHECK.due("P4 fault(-1)", x.fault(-1), -2);
        CHECK.due("P4 fault(1)", x.fault(1), 0);
        CHECK.due("P4 the TAPE stays", x.count(3), 3);
        CHECK.due("P4 nothing is made", x.count(0) + x.count(2), 0);
        CHECK.due("P5 text(2)", x.text(2), NONE);
        CHECK.due("P5 text(-1)", x.text(-1), NONE);
    }

    private static void newEstate() {
        BeatenAfternoon x = Check.estate("tx5y9v7;t;t;gx5s9;g");
        CHECK.due("P5 a LAW", Check.enact(x, "y:1"), 0);
        x.law(0);
        x.lots(7);
        x.wind(9);
        x.drives(3);
        x.practise(1);
        x.seen(0, 0, 0, true);
        x.image();
        CHECK.due("P5 before", x.count(5) + " " + x.count(9) + " " + x.count(10) + " " + x.count(11), "3 1 3 4");
        Check.feed(x, "s w 2 c 7 l 1 r 8 ; t ; t v 9 k 2 f 1 y 3 x 4; g; g s 8 x 6");
        CHECK.due("P5 text(0)", x.text(0), 2);
        CHECK.due("P5 all that was is gone", Check.state(x), "2 2 1 0 0 0 0 3 7 0 0 0 2 7 1 8 0,5,0 6,8,0 ");
        CHECK.due("P5 STATUS stays", Check.refused(x), "0 1 0 0 0");
        CHECK.due("P5 no IMAGE of this one", x.back(), NONE);
        CHECK.due("P5 nothing to undo", x.undo(), NONE);
        CHECK.due("P5 no LOG", x.log(0, 0), NONE);
        CHECK.due("P7 without items", told(x, 0), "0 0 4 3 0 1 10");
        CHECK.due("P7 with items", told(x, 1), "4 3 1 9 2 1 10");
        Check.settle(x, "g;t");
        CHECK.due("P6 RULES without s", x.rule(0) + " " + x.rule(1) + " " + x.rule(2) + " " + x.rule(3), "4 20 0 9");
        Check.settle(x, "s;g;t");
        CHECK.due("P6 RULES without items", x.rule(0) + " " + x.rule(1) + " " + x.rule(2) + " " + x.rule(3), "4 20 0 9");
    }

    private static String told(BeatenAfternoon x, int thing) {
        StringBuilder all = new StringBuilder();
        for (int what = 0; what < 7; what++) {
            all.append(what > 0 ? " " : "").append(x.thing(thing, what));
        }
        return all.toString();
    }

    private static void newLaws() {
        BeatenAfternoon x = new BeatenAfternoon();
        CHECK.due("P9 law(0) of none", x.law(0), false);
        for (int i = 0; i < 4; i++) {
            CHECK.due("P5 LAW " + i, Check.enact(x, "y:" + i), i);
            CHECK.due("P5 the TAPE is empty", x.count(3), 0);
        }
        Check.feed(x, "y:5");
        CHECK.due("P5 a fifth LAW", x.text(1), NONE);
        CHECK.due("P5 the TAPE stays", x.count(3), 3);
        CHECK.due("P4 it has no FAULT", x.fault(1), NONE);
        CHECK.due("P38 LAWS", x.count(2), 4);
        CHECK.due("P9 none holds", x.count(4), NONE);
        CHECK.due("P9 law(3)", x.law(3), true);
        CHECK.due("P9 law(3) again", x.law(3), true);
        CHECK.due("P9 law(4)", x.law(4), false);
        CHECK.due("P9 law(-2)", x.law(-2), false);
        CHECK.due("P9 it holds", x.count(4), 3);
        CHECK.due("P9 law(NONE)", x.law(NONE), true);
        CHECK.due("P9 none holds again", x.count(4), NONE);
    }

    private static void refusedTexts() {
        BeatenAfternoon x = Check.estate("tx5y9;gx5");
        x.drives(1);
        Check.feed(x, "sw1;t;t;g;g;q");
        String before = Check.state(x);
        CHECK.due("P5 a FAULT", x.text(0), NONE);
        CHECK.due("P5 a FAULT of a LAW", x.text(1), NONE);
        CHECK.due("P5 nothing changed", Check.state(x), before);
        CHECK.due("P5 no STATUS", Check.refused(x), "0 0 0 0 0");
        x.fault(0);
        CHECK.due("P7 the THING is as it was", told(x, 0), "5 9 4 3 0 0 5");
    }
}
