/**
 * Promises 1 to 5 and the first part of "Terms" at their bounds: above each test stands the sentence that it holds the
 * class against.
 */
public final class TextBoundsTest {
    private static final int NONE = BeatenAfternoon.NONE;
    private static final Check CHECK = new Check();

    /** CLAUSE, ITEM, its most, what it is without, and the call that tells it. */
    private static final String[][] ITEMS = {
        {"s", "w", "8", "4", "rule 0"}, {"s", "c", "99", "20", "rule 1"}, {"s", "l", "9", "0", "rule 2"},
        {"s", "r", "9", "9", "rule 3"}, {"t", "x", "9", "0", "thing 0 0"}, {"t", "y", "9", "0", "thing 0 1"},
        {"t", "f", "8", "4", "thing 0 2"}, {"t", "v", "9", "3", "thing 0 3"}, {"t", "k", "3", "0", "thing 0 4"},
        {"g", "x", "9", "0", "gun 0 0"}, {"g", "s", "9", "5", "gun 0 1"}};
    private static final String DIGITS = "0123456789";
    private static final String ATOMS = DIGITS + "vkdsmn";

    public static void main(String[] args) {
        newObject();
        newObjectRefuses();
        tapeFull();
        tapeEnds();
        itemBounds();
        itemDigits();
        itemsOnce();
        itemsLeftOut();
        signsOfEstates();
        signsOfLaws();
        clausesAtMost();
        lineInEstates();
        endsTooEarly();
        blanksBetween();
        blanksAlone();
        longestTexts();
        lawDigits();
        sixWithinOneAnother();
        onlyWithinOneAnother();
        sorts();
        fourLaws();
        estateInsteadOfAnother();
        refusedTexts();
        CHECK.finish("TextBoundsTest");
    }

    // "No ESTATE."
    private static void newObject() {
        String[] none = {"text 0", "text 1", "rule 0", "rule 1", "rule 2", "rule 3", "gun 0 0", "gun 0 1", "gun 0 2",
            "gun 0 3", "gun 0 4", "years 1 1", "undo", "log 0 0", "log 0 1", "log 0 2", "taker 0", "bestLine 1 0",
            "bestLine 10 1", "bestPeg 0 0", "bestPeg 0 1", "dealt 0", "dealt 1", "seen 0 0 0 true", "seen 0 0 0 false",
            "lay 0 -1", "lay 0 0", "ask 0 0", "claim 0", "claim 1", "rests 0 1 -1", "rests 0 1 0", "odds 0 0", "shares 0 0",
            "rising 0", "rising 9", "most 0", "most 1", "most 2", "most 3", "most 4", "most 5", "most 6", "most 7", "most 8",
            "ahead 1", "image", "back"};
        for (String call : none) {
            Scene.of().refused(CHECK, "P1", call, "-1");
        }
        Scene.of().refused(CHECK, "P1", "game 0 1 0 0 0", "-1000000");
        Scene.of().refused(CHECK, "P1", "thing 0 0", "throws");
        String[] counts = {"0", "0", "0", "0", "-1", "0", "0", "0", "2", "0", "0", "0", "-1000000"};
        for (int what = 0; what < counts.length; what++) {
            Scene.of().due(CHECK, "P1", "count " + what, counts[what]);
        }
        Scene.of().dues(CHECK, "P1 without an ESTATE", "law -1 = true", "law 0 = false", "lots 2 = false", "lots 3 = true",
            "feed 0 0 0 0 0 = 0", "end 0 = true", "end 1 = false", "fault 0 = 0", "fault 1 = 0", "enact y:1 = 0",
            "law 0 = true", "count 4 = 0", "count 8 = 3");
    }

    // "no ESTATE (STATUS 0)", "no such GUN (STATUS 0)", "no such THING (STATUS 0)"; "of several the first"
    private static void newObjectRefuses() {
        String[] acts = {"drives 1", "drives 0", "drives 61", "drives MOST", "line 0 1", "line 0 9", "line 5 4", "line -1 10",
            "move 0 1", "move 0 0", "move 0 10", "move -1 -1", "practise 0", "practise -1", "wind 0", "wind 4", "wind 9",
            "wind -1", "putOut 0", "putOut -1"};
        for (String act : acts) {
            Scene.of().refused(CHECK, "P1 no such one", act, "-1", 0);
        }
        Scene.of().times(511, "drives 1").due(CHECK, "P18 as many as there can be", "status 0", "511");
    }

    // "Twenty bytes more come to the TAPE (of each number the highest first; bytes of 0 are left out): how many it has.
    // NONE: more than 240."
    private static void tapeFull() {
        String twenty = "tape 12345678901234567890";
        Scene.of().times(11, twenty).dues(CHECK, "P2", twenty + " = 240", "tape 1 = -1", "feed 0 0 0 0 0 = 240",
            "feed -1 -1 -1 -1 -1 = -1", "feed 0 0 0 0 -2147483648 = -1", "count 3 = 240", "end 239 = true", "tape 12 = -1",
            "count 3 = 239", "feed 0 0 65280 0 0 = 240", "feed 0 0 65280 0 0 = -1", "end 220 = true", twenty + " = 240");
        Scene.of().times(12, twenty).refused(CHECK, "P2 full", "feed 1 0 0 0 0", "-1");
        Scene.of("tape t;g" + " ".repeat(218)).dues(CHECK, "P2 19 short of room", "count 3 = 221",
            "tape qqqqqqqqqqqqqqqqqqqq = -1", "count 3 = 221", "fault 0 = -1", "tape qqqqqqqqqqqqqqqqqqq = 240", "fault 0 = 221");
        Scene.of().dues(CHECK, "P2 each byte by itself", "feed 16777216 0 0 0 0 = 1", "feed 65536 0 0 0 0 = 2",
            "feed 256 0 0 0 0 = 3", "feed 1 0 0 0 0 = 4", "feed -2147483648 8388608 32768 128 -1 = 12");
        BeatenAfternoon x = new BeatenAfternoon();
        x.feed('t' << 24 | ';' << 16 | 'g' << 8 | 'x', '1' << 24, ';' << 8, 'g', 'x' << 24 | '2');
        CHECK.due("P2 the highest first", x.text(0) + " " + x.gun(0, 0) + " " + x.gun(1, 0), "1 1 2");
        CHECK.due("P2 the TAPE is empty then", x.feed(0, 0, 0, 0, 0), 0);
    }

    // "The TAPE has its first n bytes alone. False: n."
    private static void tapeEnds() {
        Scene tape = Scene.of("tape t;gx1");
        for (String n : new String[] {"-1", "6", "LEAST", "MOST", "240"}) {
            tape.refused(CHECK, "P3", "end " + n, "false");
        }
        tape.dues(CHECK, "P3", "end 5 = true", "count 3 = 5", "fault 0 = -1", "end 3 = true", "count 3 = 3", "fault 0 = -1",
            "end 4 = false", "tape x2 = 5", "text 0 = 1", "gun 0 0 = 2", "end 0 = true", "end 1 = false");
        Scene.of().dues(CHECK, "P3 of none", "end 1 = false", "end 0 = true", "count 3 = 0");
        Scene.of("tape t   ;g   ", "end 1").dues(CHECK, "P3 blanks that were cut", "fault 0 = 1", "fault 1 = 0", "tape ; = 2", "fault 0 = 2");
        Scene.of("tape y:12345", "end 6").dues(CHECK, "P3 a digit that was cut", "fault 1 = -1", "end 2 = true", "fault 1 = 2");
        Scene.of("tape tx12;g", "end 3").dues(CHECK, "P3 a digit that was cut", "fault 0 = 3", "tape ;g = 5", "text 0 = 1", "thing 0 0 = 1");
    }

    private static String rest(String clause) {
        return clause.equals("s") ? ";t;g" : clause.equals("t") ? ";g" : ";t";
    }

    private static void estate(String why, String text, int want) {
        CHECK.due(why + " \"" + text + "\"", Check.fault(text, 0), want);
    }

    private static void law(String why, String text, int want) {
        CHECK.due(why + " \"" + text + "\"", Check.fault(text, 1), want);
    }

    // "w WIND (0 .. 8 ..", "c COINS (0 .. 99 ..", .. "s SKILL (0 .. 9 .."; "a number out of bounds is wrong at its last digit"
    private static void itemBounds() {
        for (String[] item : ITEMS) {
            for (int n = 0; n < 100; n++) {
                String two = n < 10 ? "0" + n : "" + n;
                boolean within = n <= Integer.parseInt(item[2]);
                estate("P4 two digits", item[0] + item[1] + two + rest(item[0]), within ? NONE : 3);
                if (n < 10) {
                    estate("P4 one digit", item[0] + item[1] + n + rest(item[0]), within ? NONE : 2);
                }
                if (within) {
                    Scene.of("estate " + item[0] + item[1] + two + rest(item[0])).due(CHECK, "P5 " + item[1] + n, item[4], "" + n);
                }
            }
        }
    }

    // "a third digit .. itself, whatever stands ahead of it"; "a number (one or two digits)"
    private static void itemDigits() {
        for (String[] item : ITEMS) {
            for (String number : new String[] {"000", "001", "009", "100", "990", "999", "0000", "1234567890"}) {
                estate("P4 a third digit", item[0] + item[1] + number + rest(item[0]), 4);
            }
            estate("P4 no digit", item[0] + item[1] + rest(item[0]), 2);
            estate("P4 no digit at the end", item[0] + item[1], 2);
            estate("P4 no digit behind a blank", item[0] + item[1] + " ", 3);
            estate("P4 below 0", item[0] + item[1] + "-1" + rest(item[0]), 2);
            estate("P4 a number alone", item[0] + "1" + rest(item[0]), 1);
            estate("P4 a digit behind a blank", item[0] + item[1] + "0 0" + rest(item[0]), 4);
            estate("P4 too large ahead of a blank", item[0] + item[1] + "9 9", item[2].length() > 1 || item[2].equals("9") ? 4 : 2);
        }
    }

    // "ITEMS, none or more: a letter, each once at most in a CLAUSE"; "a letter that was there .. at it"
    private static void itemsOnce() {
        for (String[] item : ITEMS) {
            String one = item[1] + "1";
            estate("P4 twice", item[0] + one + one + rest(item[0]), 3);
            estate("P4 twice with blanks", item[0] + one + "  " + one + rest(item[0]), 5);
            estate("P4 twice, of the other CLAUSE fine", "tx1;gx1;tx1;gx1", NONE);
        }
        estate("P4 all, then each again", "tx1y1f1v1k1x", 11);
        estate("P4 all, then each again", "tx1y1f1v1k1k", 11);
        estate("P4 all of s, then one again", "sw1c1l1r1w", 9);
        estate("P4 both of g, then one again", "gx1s1s", 5);
        estate("P4 that of another CLAUSE", "ts1", 1);
        estate("P4 that of another CLAUSE", "gy1", 1);
        estate("P4 that of another CLAUSE", "sx1", 1);
    }

    // "4 without", "; 20)", "; 0, 9)", "; 0)", "; 3)", "; 5)"
    private static void itemsLeftOut() {
        for (String[] item : ITEMS) {
            StringBuilder clause = new StringBuilder(item[0]);
            for (String[] other : ITEMS) {
                if (other[0].equals(item[0]) && !other[1].equals(item[1])) {
                    clause.append(other[1]).append(other[1].equals("r") ? "7" : "1");
                }
            }
            Scene.of("estate " + clause + rest(item[0])).due(CHECK, "P5 " + clause, item[4], item[3]);
            Scene.of("estate s;t;g").due(CHECK, "P5 no ITEMS", item[4], item[3]);
            Scene.of("estate t;g").due(CHECK, "P5 no RULES", item[4], item[3]);
        }
    }

    /** Behind the start each sign of 255 is wrong at its place, but for those that may stand there. */
    private static void next(int sort, String start, String mayGoOn, String makesItWhole) {
        for (char sign = 1; sign < 256; sign++) {
            int want = makesItWhole.indexOf(sign) >= 0 ? NONE : mayGoOn.indexOf(sign) >= 0 ? start.length() + 1 : start.length();
            CHECK.due("P4 fault(" + sort + ") of " + start + " and the sign " + (int) sign, Check.fault(start + sign, sort), want);
        }
    }

    // "FAULT: the first byte at which no such TEXT can go on"
    private static void signsOfEstates() {
        next(0, "", "stg ", "");
        next(0, "  ", "stg ", "");
        next(0, "s", "wclr; ", "");
        next(0, "t", "xyfvk; ", "");
        next(0, "g", "xs; ", "");
        next(0, "t;", "stg ", "g");
        next(0, "g;", "stg ", "t");
        next(0, "t;g", "xs;", " ");
        next(0, "t;g;", " ", "stg");
        next(0, "s;", "tg ", "");
        next(0, "tx", DIGITS + " ", "");
        next(0, "tx ", DIGITS + " ", "");
        next(0, "tx0", DIGITS + "yfvk; ", "");
        next(0, "tx1", "yfvk; ", "");
        next(0, "tx00", "yfvk; ", "");
        next(0, "tx0 ", "yfvk; ", "");
        next(0, "sc9", DIGITS + "wlr; ", "");
        next(0, "t;gs", " ", DIGITS);
        next(0, "t;gs0", "x;", DIGITS + " ");
        next(0, "t;gs00", "x;", " ");
        next(0, "t;gx0s0", ";", DIGITS + " ");
    }

    // "y, : , perhaps CONDITION ?, then SUM. .."; "(A CLAUSE that goes on with ! or ( behind its : has a CONDITION.)"
    private static void signsOfLaws() {
        next(1, "", "y ", "");
        next(1, "y", ": ", "");
        next(1, "y:", "[!( ", ATOMS);
        next(1, "y:v", "+-*/=<>;", " ");
        next(1, "y:1", "+-*/=<>;", DIGITS + " ");
        next(1, "y:1 ", "+-*/=<>;", " ");
        next(1, "y:1+", "[ ", ATOMS);
        next(1, "y:1*", "[ ", ATOMS);
        next(1, "y:[", ATOMS + "[ ", "");
        next(1, "y:[v", "+-*/ ", "]");
        next(1, "y:[v]", "+-*/=<>;", " ");
        next(1, "y:v=", ATOMS + "[ ", "");
        next(1, "y:v=k", "+-*/&|? ", "");
        next(1, "y:v=[k", "+-*/] ", "");
        next(1, "y:v=[k]", "+-*/&|? ", "");
        next(1, "y:v=k&", ATOMS + "[!( ", "");
        next(1, "y:v=k|", ATOMS + "[!( ", "");
        next(1, "y:v=k&d", "+-*/=<> ", "");
        next(1, "y:v=k&[d]", "+-*/=<> ", "");
        next(1, "y:v=k?", "[ ", ATOMS);
        next(1, "y:v=k?d", "+-*/;", " ");
        next(1, "y:v=k?[d]", "+-*/;", " ");
        next(1, "y:(", ATOMS + "[!( ", "");
        next(1, "y:(v", "+-*/=<> ", "");
        next(1, "y:(v=k", "+-*/&|) ", "");
        next(1, "y:(v=k)", "&|? ", "");
        next(1, "y:((v=k)", "&|) ", "");
        next(1, "y:(v=k)?", "[ ", ATOMS);
        next(1, "y:!", ATOMS + "[!( ", "");
        next(1, "y:!v", "+-*/=<> ", "");
        next(1, "y:!v=k", "+-*/&|? ", "");
        next(1, "y:!(v=k)", "&|? ", "");
        next(1, "y:(!v=k", "+-*/&|) ", "");
        next(1, "y:1;", "y ", "");
        next(1, "y:v=k?1;", "y ", "");
        next(1, "y:1;y:", "[!( ", ATOMS);
    }

    // "s (its RULES; one at most), t (a THING; 1 .. 7), g (a GUN; 1 .. 5), in any order"; "a second s, an eighth t, a sixth g .. at it"
    private static void clausesAtMost() {
        estate("P4 a second s", "s;s;t;g", 2);
        estate("P4 a second s far behind", "sw1;t;g; s", 9);
        estate("P4 a second s with ITEMS", "t;s;g;sw1", 6);
        for (int things = 1; things <= 7; things++) {
            for (int guns = 1; guns <= 5; guns++) {
                String text = "t;".repeat(things) + "s;" + "g;".repeat(guns - 1) + "g";
                Scene.of("estate " + text).dues(CHECK, "P5 " + text, "count 0 = " + things, "count 1 = " + guns,
                    "count 7 = " + ((1 << things) - 1));
                estate("P4 an eighth t", text + ";t".repeat(8 - things), text.length() + 2 * (8 - things) - 1);
                estate("P4 a sixth g", text + ";g".repeat(6 - guns), text.length() + 2 * (6 - guns) - 1);
            }
        }
        estate("P4 an eighth t behind blanks", "t;t;t;t;t;t;t;   t", 17);
        estate("P4 a sixth g behind blanks", "g;g;g;g;g;   g", 13);
        estate("P4 an eighth t with ITEMS", "t;t;t;t;t;t;t;tx1;g", 14);
        estate("P4 no THING", "g", 1);
        estate("P4 no THING", "s;g;g;g;g;g", 11);
        estate("P4 no GUN", "t;t;t;t;t;t;t;s ", 16);
        Scene.of("estate gx1;tx2;sw3;gx4;tx5").dues(CHECK, "P5 by their order", "gun 0 0 = 1", "gun 1 0 = 4", "thing 0 0 = 2",
            "thing 1 0 = 5", "rule 0 = 3");
    }

    // "(the length, if it ends .. with l above r)"
    private static void lineInEstates() {
        for (int l = 0; l < 10; l++) {
            for (int r = 0; r < 10; r++) {
                estate("P4 l and r", "sl" + l + "r" + r + ";t;g", l > r ? 9 : NONE);
                estate("P4 r and l", "t;g;sr" + r + "l" + l + " ", l > r ? 10 : NONE);
            }
        }
        estate("P4 l alone", "sl9;t;g", NONE);
        estate("P4 r alone", "sr0;t;g", NONE);
        estate("P4 l above r, no GUN", "sl1r0;t", 7);
        estate("P4 l above r, but wrong ahead of the end", "sl1r0;t;g;", 10);
        estate("P4 l above r, but wrong ahead of the end", "sl1r0;t;g;x", 10);
        estate("P4 l above r, but wrong ahead of the end", "sl1r0x;t;g", 5);
    }

    // "(the length, if it ends too early, without a THING or a GUN ..)"
    private static void endsTooEarly() {
        String text = " sw8 c99l0 r9;tx9y8f7v6k3 ; t;gx 9 s09";
        int whole = text.indexOf('g');
        for (int length = 0; length <= text.length(); length++) {
            String letter = length == 0 ? "" : text.substring(0, length).trim();
            boolean wantsMore = length <= whole || letter.endsWith("x") || letter.endsWith("s");
            estate("P4 ends too early", text.substring(0, length), wantsMore ? length : NONE);
        }
        String told = "y:!([v+1]*2=k|d<3)&s>4?m-[n/ 12 ];y: v";
        for (int length = 0; length <= told.length(); length++) {
            boolean stands = length == told.indexOf('m') + 1 || length == told.indexOf(';') || length == told.length();
            law("P4 ends too early", told.substring(0, length), stands ? NONE : length);
        }
    }

    private static void blankAtEachPlace(int sort, String text) {
        for (int at = 0; at <= text.length(); at++) {
            boolean within = at > 0 && at < text.length() && DIGITS.indexOf(text.charAt(at - 1)) >= 0 && DIGITS.indexOf(text.charAt(at)) >= 0;
            for (int many = 1; many <= 2; many++) {
                String blanked = text.substring(0, at) + " ".repeat(many) + text.substring(at);
                CHECK.due("P4 fault(" + sort + ") of \"" + blanked + "\"", Check.fault(blanked, sort), within ? at + many : NONE);
            }
            if (!within) {
                String tabbed = text.substring(0, at) + "\t" + text.substring(at);
                CHECK.due("P4 fault(" + sort + ") of a tab at " + at + " in " + text, Check.fault(tabbed, sort), at);
            }
        }
    }

    // "Blanks (32) may stand between all signs of both, not within numbers."
    private static void blanksBetween() {
        blankAtEachPlace(0, "sw8c99l0r9;tx9y8f7v6k3;t;gx9s09");
        blankAtEachPlace(1, "y:!([v+1]*22=k|d<3)&s>4444?m-n/12;y:v");
        Scene.of("estate  s c 12 w 3 ; t  v 07 ; g s 1 x 2 ").dues(CHECK, "P5 with blanks", "rule 1 = 12", "rule 0 = 3", "thing 0 3 = 7",
            "gun 0 1 = 1", "gun 0 0 = 2");
        Scene.of("estate tx5y9;gx5s0", "enact  y : [ 12 - 10 ] * 2 - 3 ", "law 0").due(CHECK, "P5 a LAW with blanks", "taker 0", "0");
        Scene.of("estate tx5y9;gx5s0", "enact  y : [ 12 - 10 ] * 2 - 4 ", "law 0").due(CHECK, "P5 a LAW with blanks", "taker 0", "-1");
    }

    // the same, and "(the length, if it ends too early ..)"
    private static void blanksAlone() {
        for (int many = 0; many <= 240; many++) {
            String blanks = " ".repeat(many);
            estate("P4 blanks alone", blanks, many);
            law("P4 blanks alone", blanks, many);
            if (many <= 237) {
                estate("P4 blanks ahead", blanks + "t;g", NONE);
                estate("P4 blanks behind", "t;g" + blanks, NONE);
                law("P4 blanks ahead", blanks + "y:1", NONE);
                law("P4 blanks behind", "y:1" + blanks, NONE);
            }
        }
    }

    private static void longLaw(String text, String want) {
        CHECK.due("P5 as long as a LAW can be: " + text, text.length() > 220 && text.length() <= 240, true);
        Scene.of("estate tx5y6v7k2;gx3s8").dues(CHECK, text, "enact " + text + " = 0", "law 0 = true", "taker 0 = " + want);
    }

    // "NONE: more than 240": a TEXT of 240 bytes is read to its end
    private static void longestTexts() {
        longLaw("y:" + "1+".repeat(112) + "1=113?1", "0");
        longLaw("y:" + "1+".repeat(112) + "1=112?1", "-1");
        longLaw("y:v=7?" + "1-".repeat(110) + "1+110", "0");
        longLaw("y:v=7?" + "1-".repeat(110) + "1+109", "-1");
        longLaw("y:" + "v<7|".repeat(55) + "v>6?1", "0");
        longLaw("y:" + "v>6&".repeat(55) + "v<7?1", "-1");
        longLaw("y:v=6?9;".repeat(29) + "y:v=7?1", "0");
        longLaw("y:v=6?9;".repeat(29) + "y:v=7?0", "-1");
        longLaw("y:" + "[[[[[[v]]]]]]*".repeat(15) + "n=0?0001 + 1 - 00", "0");
        longLaw("y:" + "!!!!!(v=7)&".repeat(20) + "!!!!!v=7?1", "-1");
        longLaw("y:" + "!!!!!v=6&".repeat(25) + "!!!!!v=6?1", "0");
        String thing = "t x 01 y 02 f 03 v 04 k 01 ;";
        Scene.of().dues(CHECK, "P5 an ESTATE of 240 bytes", "tape " + thing.repeat(7) + "gx09s08;gx07s06;gx05s04;gx03s02;gx1s " + " = 233", "fault 0 = 233",
            "tape 0000000 = 240", "fault 0 = 235", "end 234 = true", "tape " + " ".repeat(6) + " = 240", "fault 0 = -1", "text 0 = 7", "count 1 = 5", "gun 4 1 = 0", "thing 6 3 = 4");
    }

    // "a number (1 to 4 digits)"; "a fifth one in a LAW .. itself, whatever stands ahead of it"
    private static void lawDigits() {
        String[] fine = {"0", "9", "00", "99", "000", "999", "0000", "0001", "9999"};
        String[] wrong = {"00000", "00001", "10000", "99999", "000000", "1234567890"};
        for (String number : fine) {
            law("P4 four digits", "y:" + number, NONE);
            law("P4 four digits", "y:" + number + "=[" + number + "]?" + number, NONE);
        }
        for (String number : wrong) {
            law("P4 a fifth digit", "y:" + number, 6);
            law("P4 a fifth digit", "y:v=" + number, 8);
            law("P4 a fifth digit", "y:v=1?" + number, 10);
            law("P4 a fifth digit", "y:1+[" + number, 9);
        }
        Scene.of("estate tx5y9;gx5", "enact y:0012-11", "law 0").due(CHECK, "P5 0012", "taker 0", "0");
        Scene.of("estate tx5y9;gx5", "enact y:0012-12", "law 0").due(CHECK, "P5 0012", "taker 0", "-1");
    }

    // "At most six of ( [ ! within one another."; "a seventh of ( [ ! at it"
    private static void sixWithinOneAnother() {
        for (int squares = 0; squares <= 6; squares++) {
            for (int row = 0; row < 1 << 6 - squares; row++) {
                StringBuilder open = new StringBuilder();
                StringBuilder shut = new StringBuilder();
                for (int i = 0; i < 6 - squares; i++) {
                    boolean round = (row >> i & 1) == 1;
                    open.append(round ? '(' : '!');
                    shut.append(round ? ")" : "");
                }
                String six = "y:" + open + "[".repeat(squares);
                law("P4 six", six + "v" + "]".repeat(squares) + "=1" + shut + "?1", NONE);
                law("P4 a seventh", six + "[v]" + "]".repeat(squares) + "=1" + shut + "?1", 8);
                law("P4 a seventh behind blanks", six + "  [", 10);
                law("P4 a seventh on the other side", six + "v" + "]".repeat(squares) + "=" + "[".repeat(squares + 1),
                    6 + 2 + 1 + 2 * squares + 1);
                if (squares == 0) {
                    law("P4 a seventh", six + "(v=1)" + shut + "?1", 8);
                    law("P4 a seventh", six + "!v=1" + shut + "?1", 8);
                }
            }
        }
        law("P4 six in a SUM", "y:" + "[".repeat(6) + "1" + "]".repeat(6), NONE);
        law("P4 a seventh in a SUM", "y:" + "[".repeat(7) + "1" + "]".repeat(7), 8);
        law("P4 six behind ?", "y:v=1?" + "1+[".repeat(6) + "1" + "]".repeat(6), NONE);
        law("P4 a seventh behind ?", "y:v=1?" + "1+[".repeat(7) + "1", 6 + 20);
    }

    // "within one another": those beside one another count by themselves
    private static void onlyWithinOneAnother() {
        law("P4 brackets beside one another", "y:" + "[v]+".repeat(50) + "[[[[[[v]]]]]]", NONE);
        law("P4 CONDITIONS beside one another", "y:" + "(v=1)&".repeat(30) + "((((((v=1))))))?1", NONE);
        law("P4 ! beside one another", "y:" + "!v=1&".repeat(30) + "!!!!!!v=1?1", NONE);
        law("P4 ! ends with its UNIT", "y:!!!!!!v=1&!!!!!!v=1|!!!!!!v=1?1", NONE);
        law("P4 ! ends with its UNIT, here [", "y:!!!!!!v=1&[[[[[[v]]]]]]=1?1", NONE);
        law("P4 ! holds both SUMS of its UNIT", "y:!v=[[[[[1]]]]]?1", NONE);
        law("P4 ! holds both SUMS of its UNIT", "y:!v=[[[[[[1]]]]]]?1", 10);
        law("P4 ( ends with )", "y:(((v=1)))&(((((!v=1)))))?1", NONE);
        law("P4 each CLAUSE by itself", "y:!!!!!!v=1?[[[[[[1]]]]]];y:((((((v=1))))))?1;y:[[[[[[1]]]]]]", NONE);
        law("P4 ( behind (", "y:(v=1&(v=1&(v=1&(v=1&(v=1&(v=1&v=1))))))?1", NONE);
        law("P4 a seventh ( behind (", "y:(v=1&(v=1&(v=1&(v=1&(v=1&(v=1&(v=1", 2 + 6 * 5);
    }

    // "The FAULT of the TAPE as an ESTATE (0), a LAW (1). .. -2: no such sort."; "NONE: .. no such sort"
    private static void sorts() {
        for (String tape : new String[] {"t;g", "y:1", ""}) {
            Scene scene = tape.isEmpty() ? Scene.of() : Scene.of("tape " + tape);
            for (String sort : new String[] {"2", "-1", "-2", "LEAST", "MOST"}) {
                scene.refused(CHECK, "P4 no such sort", "fault " + sort, "-2");
                scene.refused(CHECK, "P5 no such sort", "text " + sort, "-1");
            }
            scene.refused(CHECK, "P4 it is only asked", "fault 0", tape.equals("t;g") ? "-1" : "0");
            scene.refused(CHECK, "P4 it is only asked", "fault 1", tape.equals("y:1") ? "-1" : "0");
        }
    }

    // "LAWS (4 at most)"; "NONE: .. there are four LAWS"; "The LAW that holds (NONE: none). False: no such one."
    private static void fourLaws() {
        Scene laws = Scene.of("estate tx5y9;gx5");
        for (int i = 0; i < 4; i++) {
            laws.due(CHECK, "P5 the LAW " + i, "enact y:" + i, "" + i);
            laws.refused(CHECK, "P9 no such one", "law " + i, "false");
            laws = laws.then("enact y:" + i);
            laws.dues(CHECK, "P9 the newest", "count 3 = 0", "count 2 = " + (i + 1), "count 4 = -1", "law " + i + " = true", "count 4 = " + i,
                "taker 0 = " + (i > 0 ? 0 : -1), "law -1 = true", "count 4 = -1", "taker 0 = 0");
        }
        laws.then("tape y:9").refused(CHECK, "P5 a fifth", "text 1", "-1");
        laws.then("tape y:").refused(CHECK, "P5 a fifth with a FAULT", "text 1", "-1");
        laws.then("tape y:9").due(CHECK, "P4 a fifth has no FAULT", "fault 1", "-1");
        laws.then("tape t;t;g").due(CHECK, "P5 an ESTATE beside four LAWS", "text 0", "2");
        for (String no : new String[] {"4", "-2", "LEAST", "MOST"}) {
            laws.then("law 3").refused(CHECK, "P9 no such one", "law " + no, "false");
        }
        laws.then("law 3").dues(CHECK, "P9 it holds already", "law 3 = true", "count 4 = 3", "law -1 = true", "law -1 = true");
    }

    // "The TAPE (empty then) is the ESTATE (DAY 0, all OUT; all that was of another one, SEEN, too, is gone but LAWS,
    // which holds, LOTS, STATUS)"
    private static void estateInsteadOfAnother() {
        Scene lived = Scene.of("enact y:20", "enact y:0", "law 0", "lots 7", "estate sc9;tx1y9v9;tx2y9;tx3y9;gx1;gx2;gx3", "drives 3", "wind 1",
            "move 0 2", "practise 1", "line 1 2", "seen 0 0 0 true", "seen 1 0 0 false", "image", "wind 9", "wind 1");
        lived.dues(CHECK, "P5 before", "count 5 = 3", "count 6 = 15", "count 7 = 0", "count 9 = 2", "count 10 = 3", "count 11 = 7",
            "estate tx0y9;gx5 = 1", "count 0 = 1", "count 1 = 1", "count 2 = 2", "count 3 = 0", "count 4 = 0", "count 5 = 0", "count 6 = 0",
            "count 7 = 1", "count 8 = 7", "count 9 = 0", "count 10 = 0", "count 11 = 0", "rule 0 = 4", "rule 1 = 20", "rule 2 = 0",
            "rule 3 = 9", "thing 0 5 = 1", "thing 1 0 = throws", "gun 0 0 = 5", "gun 0 1 = 5", "gun 0 2 = 0", "gun 1 0 = -1", "taker 0 = 0",
            "log 0 0 = -1", "undo = -1", "back = -1", "lay 0 -1 = 10", "status 0 = 0", "status 1 = 1", "status 2 = 1", "status 3 = 0");
        lived.then("estate tx1y9v9;gx1").dues(CHECK, "P5 it goes on", "drives 1 = 1", "count 6 = 9", "count 10 = 1", "log 0 0 = 1", "undo = 0",
            "undo = -1", "seen 0 0 0 true = 1", "image = 0", "back = 0");
        lived.then("estate sc9;tx1y9v9;tx2y9;tx3y9;gx1;gx2;gx3").due(CHECK, "P37 no IMAGE of this ESTATE, though alike", "back", "-1");
    }

    // "NONE: a FAULT .."; "What is refused answers as told and changes nothing but STATUS."
    private static void refusedTexts() {
        Scene lived = Scene.of("enact y:n<1?5", "law 0", "estate sw3;tx5y9;tx6y9k2;gx5;gx6", "drives 1", "seen 0 0 0 false", "image", "wind 5");
        String[] wrong = {"s w1 c2 l3 r4;tx1;tx2;tx3;gx1;gx2;q", "sl9r0;t;t;t;g;g;g", "t;t;t;t;t;t;t;t", "g", "y:v=1", "y:12345", "y:[1", ""};
        for (String text : wrong) {
            Scene tape = text.isEmpty() ? lived : lived.then("tape " + text);
            tape.refused(CHECK, "P5 a FAULT", "text 0", "-1");
            tape.refused(CHECK, "P5 a FAULT", "text 1", "-1");
            tape.then("text 0", "text 1").dues(CHECK, "P5 the TAPE stays", "count 3 = " + text.length());
        }
    }
}
