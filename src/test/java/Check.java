/** What the tests share: texts fed to a tape, answers held against those that are due. */
final class Check {
    private int wrong = 0;
    private int asked = 0;

    void due(String call, long got, long want) {
        asked++;
        if (got != want) {
            wrong++;
            System.out.println(call + " answered " + got + ", due is " + want);
        }
    }

    void due(String call, boolean got, boolean want) {
        due(call, got ? 1L : 0L, want ? 1L : 0L);
    }

    /** Seven values of thing() and the like are easier to read as one text. */
    void due(String call, String got, String want) {
        asked++;
        if (!got.equals(want)) {
            wrong++;
            System.out.println(call + " answered " + got + ", due is " + want);
        }
    }

    void finish(String name) {
        System.out.println(name + ": " + asked + " answers, " + wrong + " wrong");
        if (wrong != 0 || asked == 0) {
            System.exit(1);
        }
    }

    static int[] pack(String text, int from) {
        int[] five = new int[5];
        for (int i = 0; i < 20 && from + i < text.length(); i++) {
            five[i / 4] |= (text.charAt(from + i) & 255) << 24 - 8 * (i % 4);
        }
        return five;
    }

    static int feed(BeatenAfternoon x, String text) {
        int length = NOTHING_FED;
        for (int from = 0; from < text.length(); from += 20) {
            int[] p = pack(text, from);
            length = x.feed(p[0], p[1], p[2], p[3], p[4]);
        }
        return length;
    }

    static final int NOTHING_FED = -7;

    static int fault(String text, int sort) {
        BeatenAfternoon x = new BeatenAfternoon();
        feed(x, text);
        return x.fault(sort);
    }

    static BeatenAfternoon estate(String text) {
        BeatenAfternoon x = new BeatenAfternoon();
        settle(x, text);
        return x;
    }

    static void settle(BeatenAfternoon x, String text) {
        feed(x, text);
        if (x.text(0) < 1) {
            throw new IllegalStateException("not an estate: " + text);
        }
    }

    static int enact(BeatenAfternoon x, String text) {
        feed(x, text);
        return x.text(1);
    }

    static BeatenAfternoon underLaw(String estate, String law) {
        BeatenAfternoon x = estate(estate);
        int number = enact(x, law);
        if (number < 0 || !x.law(number)) {
            throw new IllegalStateException("not a law: " + law);
        }
        return x;
    }

    static boolean throwsNoSuchElement(BeatenAfternoon x, int thing, int what) {
        try {
            x.thing(thing, what);
            return false;
        } catch (java.util.NoSuchElementException e) {
            return true;
        }
    }

    static String refused(BeatenAfternoon x) {
        return x.status(0) + " " + x.status(1) + " " + x.status(2) + " " + x.status(3) + " " + x.status(4);
    }

    /** All that a caller can see of the state without a text being read. */
    static String state(BeatenAfternoon x) {
        StringBuilder all = new StringBuilder();
        for (int what = 0; what < 12; what++) {
            all.append(x.count(what)).append(' ');
        }
        for (int what = 0; what < 4; what++) {
            all.append(x.rule(what)).append(' ');
        }
        for (int gun = 0; gun < x.count(1); gun++) {
            all.append(x.gun(gun, 0)).append(',').append(x.gun(gun, 1)).append(',').append(x.gun(gun, 2)).append(' ');
        }
        for (int i = 0; i < x.count(10); i++) {
            all.append(x.log(i, 0)).append('/').append(x.log(i, 1)).append('/').append(x.log(i, 2)).append(' ');
        }
        return all.toString();
    }
}
