import java.util.Random;

/** Runs of random calls, each answered by the class and by the oracle. The seeds are fixed: each run is the same. */
public final class OracleTest {
    private static final int RUNS = 4000;
    private static final int CALLS = 160;

    private final Random random;
    private final Check check;
    private BeatenAfternoon x = new BeatenAfternoon();
    private Oracle o = new Oracle();
    private String trace = "";

    private OracleTest(long seed, Check check) {
        random = new Random(seed);
        this.check = check;
    }

    public static void main(String[] args) {
        Check check = new Check();
        for (int run = 0; run < RUNS; run++) {
            new OracleTest(run, check).go(run);
        }
        for (int run = 0; run < 20000; run++) {
            new OracleTest(run, check).faults();
        }
        for (int run = 0; run < 3000; run++) {
            new OracleTest(run, check).claims(run);
        }
        check.finish("OracleTest");
    }

    private void go(int run) {
        trace = "run " + run + " ";
        if (random.nextInt(20) != 0) {
            settle();
        }
        for (int i = 0; i < CALLS; i++) {
            call();
        }
    }

    private void faults() {
        String text = random.nextBoolean() ? estate() : law();
        if (random.nextInt(4) != 0) {
            text = marred(text);
        }
        feed(text);
        same("fault(0) " + text, x.fault(0), o.fault(0));
        same("fault(1) " + text, x.fault(1), o.fault(1));
    }

    /** Under these LAWS a GUN that has TAKEN something reaches what was LET BY ahead of that; under some, each TAKES one. */
    private void claims(int run) {
        trace = "claims " + run + " ";
        settle();
        int near = 1 + random.nextInt(3), less = random.nextInt(12), finest = 3 + random.nextInt(5), late = 1 + random.nextInt(6);
        String keen = "y:v>" + finest + "?20-d;y:n*" + (4 + random.nextInt(9)) + "+s-d*" + near + "-" + (9 + less);
        if (run % 2 == 1) {
            keen = "y:m>" + late + "&n<1?20;y:m>" + late + "?0;y:n*" + (4 + random.nextInt(9)) + "-d*" + near;
        }
        feed(keen);
        same("text(1) " + keen, x.text(1), o.text(1));
        same("law(0)", x.law(0) ? 1 : 0, o.law(0) ? 1 : 0);
        for (int i = 0; i < 12; i++) {
            int wind = random.nextInt(9), from = random.nextInt(5), to = 5 + random.nextInt(5);
            same("wind(" + wind + ")", x.wind(wind), o.wind(wind));
            same("line(" + from + "," + to + ")", x.line(from, to), o.line(from, to));
            same("claim(0) under " + keen, x.claim(0), o.claim(0));
            same("claim(1) under " + keen, x.claim(1), o.claim(1));
        }
    }

    private void same(String call, long got, long want) {
        check.due(trace + call, got, want);
    }

    // ---- texts

    private String blanks() {
        return random.nextInt(12) == 0 ? " ".repeat(1 + random.nextInt(2)) : "";
    }

    private String number(int most) {
        int n = random.nextInt(most + 1);
        return n < 10 && random.nextInt(10) == 0 ? "0" + n : "" + n;
    }

    private String items(String letters, int[] most, int oneIn) {
        StringBuilder all = new StringBuilder();
        int start = random.nextInt(letters.length());
        for (int i = 0; i < letters.length(); i++) {
            int which = (start + i) % letters.length();
            if (random.nextInt(oneIn) != 0) {
                all.append(blanks()).append(letters.charAt(which)).append(blanks()).append(number(most[which]));
            }
        }
        return all.append(blanks()).toString();
    }

    private String estate() {
        StringBuilder all = new StringBuilder(blanks());
        int things = 1 + random.nextInt(7), guns = 1 + random.nextInt(5);
        boolean rules = random.nextBoolean();
        while (things > 0 || guns > 0 || rules) {
            int pick = random.nextInt(13);
            if (pick < 7 && things > 0) {
                all.append('t').append(items("xyfvk", new int[] {9, 9, 8, 9, 3}, 5)).append(';');
                things--;
            } else if (pick < 12 && guns > 0) {
                all.append('g').append(items("xs", new int[] {9, 9}, 5)).append(';');
                guns--;
            } else if (pick == 12 && rules) {
                boolean poor = random.nextBoolean();
                all.append('s').append(items("wclr", new int[] {8, poor ? 9 : 99, 4, 9}, 3)).append(';');
                rules = false;
            }
        }
        all.setLength(all.length() - 1);
        return all.toString();
    }

    private String law() {
        StringBuilder all = new StringBuilder(blanks());
        int clauses = 1 + random.nextInt(3);
        for (int i = 0; i < clauses; i++) {
            all.append(i > 0 ? ";" : "").append(blanks()).append("y").append(blanks()).append(":");
            int deep = 1 + random.nextInt(random.nextInt(4) == 0 ? 7 : 2);
            if (random.nextBoolean()) {
                all.append(condition(deep)).append('?');
            }
            all.append(sum(deep));
        }
        return all.toString();
    }

    private String condition(int deep) {
        StringBuilder all = new StringBuilder(unit(deep));
        while (random.nextInt(3) == 0) {
            all.append(blanks()).append(random.nextBoolean() ? '|' : '&').append(unit(deep));
        }
        return all.toString();
    }

    private String unit(int deep) {
        int pick = random.nextInt(6);
        if (deep > 0 && pick == 0) {
            return blanks() + "!" + unit(deep - 1);
        }
        if (deep > 0 && pick == 1) {
            return blanks() + "(" + condition(deep - 1) + blanks() + ")";
        }
        return sum(deep) + blanks() + "=<>".charAt(random.nextInt(3)) + sum(deep);
    }

    private String sum(int deep) {
        StringBuilder all = new StringBuilder(atom(deep));
        while (random.nextInt(2) == 0) {
            all.append(blanks()).append("+-*/".charAt(random.nextInt(4))).append(atom(deep));
        }
        return all.toString();
    }

    private String atom(int deep) {
        int pick = random.nextInt(8);
        if (deep > 0 && pick == 0) {
            return blanks() + "[" + sum(deep - 1) + blanks() + "]";
        }
        if (pick < 3) {
            return blanks() + number(random.nextInt(6) == 0 ? 9999 : 12);
        }
        return blanks() + "vkdsmn".charAt(random.nextInt(6));
    }

    private String marred(String text) {
        StringBuilder all = new StringBuilder(text);
        String signs = "stgxyfvkwclrsdmn:;?!()[]=<>&|+-*/0123456789 !![[((zA" + (char) 233 + (char) 10;
        int times = 1 + random.nextInt(2);
        for (int i = 0; i < times; i++) {
            int at = random.nextInt(all.length() + 1);
            int pick = random.nextInt(4);
            String more = "" + signs.charAt(random.nextInt(signs.length()));
            if (pick == 0 || at == all.length()) {
                all.insert(at, more.repeat(1 + random.nextInt(random.nextInt(4) == 0 ? 8 : 2)));
            } else if (pick == 1) {
                all.deleteCharAt(at);
            } else if (pick == 2) {
                all.setCharAt(at, more.charAt(0));
            } else {
                all.setLength(at);
            }
            if (all.length() == 0) {
                all.append('t');
            }
        }
        return all.toString();
    }

    private void feed(String text) {
        for (int from = 0; from < text.length(); from += 20) {
            int[] p = Check.pack(text, from);
            same("feed " + text, x.feed(p[0], p[1], p[2], p[3], p[4]), o.feed(p[0], p[1], p[2], p[3], p[4]));
        }
    }

    private void settle() {
        x.end(0);
        o.end(0);
        feed(estate());
        same("text(0)", x.text(0), o.text(0));
    }

    private void enact() {
        x.end(0);
        o.end(0);
        feed(law());
        same("text(1)", x.text(1), o.text(1));
        same("count(2)", x.count(2), o.count(2));
    }

    // ---- calls

    /** Mostly 0 .. most, now and then just beyond, seldom far beyond. */
    private int near(int most) {
        int pick = random.nextInt(40);
        int[] far = {Integer.MIN_VALUE, Integer.MAX_VALUE, -2, 1 << 30, -1000000};
        return pick == 0 ? -1 : pick == 1 ? most + 1 : pick == 2 ? far[random.nextInt(far.length)] : random.nextInt(most + 1);
    }

    private int thing() {
        return near(Math.max(0, o.things.size() - 1));
    }

    private int gun() {
        return near(Math.max(0, o.guns - 1));
    }

    private int index() {
        return random.nextInt(3) == 0 ? -1 : near(4);
    }

    private void call() {
        int pick = random.nextInt(42);
        if (pick < 14) {
            act(pick);
        } else if (pick < 28) {
            ask(pick);
        } else {
            look(pick);
        }
    }

    private void act(int pick) {
        int a = gun(), t = thing(), c = near(9), d = near(9), n = random.nextInt(8) == 0 ? near(60) : near(3);
        long seed = random.nextInt(3) == 0 ? random.nextInt(9) : random.nextLong();
        switch (pick) {
            case 0: same("drives(" + n + ")", x.drives(n), o.drives(n)); break;
            case 1: same("line(" + c + "," + d + ")", x.line(c, d), o.line(c, d)); break;
            case 2: same("move(" + a + "," + c + ")", x.move(a, c), o.move(a, c)); break;
            case 3: same("practise(" + a + ")", x.practise(a), o.practise(a)); break;
            case 4: same("wind(" + c + ")", x.wind(c), o.wind(c)); break;
            case 5: same("putOut(" + t + ")", x.putOut(t), o.putOut(t)); break;
            case 6: same("lots(" + c + ")", x.lots(c) ? 1 : 0, o.lots(c) ? 1 : 0); break;
            case 7: same("years(" + n + "," + seed + ")", x.years(n, seed), o.years(n, seed)); break;
            case 8: same("undo()", x.undo(), o.undo()); break;
            case 9: n = near(4); same("law(" + n + ")", x.law(n) ? 1 : 0, o.law(n) ? 1 : 0); break;
            case 10: enact(); break;
            case 11:
                if (random.nextInt(4) == 0) {
                    same("image()", x.image(), o.image());
                }
                break;
            case 12:
                if (random.nextInt(8) == 0) {
                    same("back()", x.back(), o.back());
                }
                break;
            default:
                if (random.nextInt(25) == 0) {
                    settle();
                } else if (random.nextInt(4) == 0) {
                    tape();
                } else {
                    everything();
                }
        }
    }

    private void tape() {
        feed(marred(random.nextBoolean() ? law() : estate()));
        int n = near(240);
        same("end(" + n + ")", x.end(n) ? 1 : 0, o.end(n) ? 1 : 0);
        int sort = near(1);
        same("fault(" + sort + ")", x.fault(sort), o.fault(sort));
        same("text(" + sort + ")", x.text(sort), o.text(sort));
        same("count(3)", x.count(3), o.count(3));
    }

    private void everything() {
        for (int what = -1; what < 13; what++) {
            same("count(" + what + ")", x.count(what), o.count(what));
        }
        for (int what = -1; what < 6; what++) {
            same("status(" + what + ")", x.status(what), o.status(what));
            same("rule(" + what + ")", x.rule(what), o.rule(what));
        }
        for (int i = 0; i <= 60; i++) {
            same("log(" + i + ",..)", x.log(i, 0) * 99 + x.log(i, 1) * 9 + x.log(i, 2), o.log(i, 0) * 99 + o.log(i, 1) * 9 + o.log(i, 2));
        }
    }

    private void ask(int pick) {
        int a = gun(), b = gun(), t = thing(), c = near(9), w = near(8), n = near(10), what = near(1);
        switch (pick) {
            case 14: same("taker(" + t + ")", x.taker(t), o.taker(t)); break;
            case 15: same("bestLine(" + n + "," + what + ")", x.bestLine(n, what), o.bestLine(n, what)); break;
            case 16: same("bestPeg(" + a + "," + what + ")", x.bestPeg(a, what), o.bestPeg(a, what)); break;
            case 17:
                if (random.nextInt(12) == 0) {
                    same("dealt(" + what + ")", x.dealt(what), o.dealt(what));
                }
                break;
            case 18:
                boolean is = random.nextInt(4) == 0;
                same("seen(" + t + "," + w + "," + c + "," + is + ")", x.seen(t, w, c, is), o.seen(t, w, c, is));
                break;
            case 19: n = random.nextInt(3) == 0 ? -1 : near(9); same("lay(" + t + "," + n + ")", x.lay(t, n), o.lay(t, n)); break;
            case 20: same("ask(" + t + "," + c + ")", x.ask(t, c), o.ask(t, c)); break;
            case 21: same("claim(" + what + ")", x.claim(what), o.claim(what)); break;
            case 22:
                n = near(3);
                w = near(3);
                same("game(" + a + "," + b + "," + n + "," + w + "," + what + ")", x.game(a, b, n, w, what), o.game(a, b, n, w, what));
                break;
            case 23: n = index(); same("rests(" + a + "," + b + "," + n + ")", x.rests(a, b, n), o.rests(a, b, n)); break;
            case 24: n = near(100); same("odds(" + a + "," + n + ")", x.odds(a, n), o.odds(a, n)); break;
            case 25: n = near(999); same("shares(" + a + "," + n + ")", x.shares(a, n), o.shares(a, n)); break;
            case 26: same("rising(" + c + ")", x.rising(c), o.rising(c)); break;
            default: n = near(random.nextBoolean() ? 200 : 9999); same("ahead(" + n + ")", x.ahead(n), o.ahead(n)); break;
        }
    }

    private void look(int pick) {
        int a = gun(), t = thing(), n = near(8);
        if (pick < 32) {
            same("most(" + n + ")", x.most(n), o.most(n));
        } else if (pick < 36) {
            n = near(4);
            same("gun(" + a + "," + n + ")", x.gun(a, n), o.gun(a, n));
        } else if (pick < 39) {
            n = near(6);
            same("thing(" + t + "," + n + ")", told(true, t, n), told(false, t, n));
        } else {
            n = near(11);
            same("count(" + n + ")", x.count(n), o.count(n));
        }
    }

    private long told(boolean byClass, int thing, int what) {
        try {
            return byClass ? x.thing(thing, what) : o.thing(thing, what);
        } catch (java.util.NoSuchElementException e) {
            return Long.MIN_VALUE;
        }
    }
}
