import java.lang.management.ManagementFactory;

/** All calls of a run live in one room: a call makes nothing, but for text(1) and the exception of thing. */
public final class RoomTest {
    private static final Check CHECK = new Check();
    private static final com.sun.management.ThreadMXBean BEAN =
        (com.sun.management.ThreadMXBean) ManagementFactory.getThreadMXBean();

    public static void main(String[] args) {
        String seven = "tx5y9;tx4y8;tx3y7;tx2y6f5;tx6y5v9;tx7y4f3k2;tx8y3v0;gx1;gx3s7;gx5;gx7s8;gx9";
        BeatenAfternoon x = Check.underLaw(seven, "y:v>5&!k=2|(n<2)?20-d*2;y:n*4+s-d");
        allCalls(x);
        long before = made();
        for (int i = 0; i < 10; i++) {
            allCalls(x);
        }
        CHECK.due("bytes made by 10 times all calls", made() - before < 2000, true);
        before = made();
        BeatenAfternoon another = new BeatenAfternoon();
        long size = made() - before;
        CHECK.due("bytes made by a constructor: " + size, size < 20000 && another.count(0) == 0, true);
        CHECK.finish("RoomTest");
    }

    private static long made() {
        return BEAN.getThreadAllocatedBytes(Thread.currentThread().getId());
    }

    private static void allCalls(BeatenAfternoon x) {
        x.feed('y' << 24 | ':' << 16 | '1' << 8, 0, 0, 0, 0);
        x.fault(0);
        x.fault(1);
        x.text(0);
        x.end(0);
        for (int what = -1; what < 13; what++) {
            x.rule(what);
            x.gun(1, what);
            x.status(what);
            x.log(0, what);
            x.taker(what);
            x.most(what);
            x.count(what);
            x.rising(what);
        }
        x.thing(1, 6);
        x.law(0);
        x.drives(3);
        x.line(1, 8);
        x.move(0, 2);
        x.practise(1);
        x.wind(6);
        x.putOut(2);
        x.lots(8);
        x.years(60, 11);
        x.seen(1, 2, 3, false);
        x.lay(1, -1);
        x.ask(1, 3);
        x.bestLine(3, 0);
        x.bestPeg(2, 0);
        x.dealt(0);
        x.claim(0);
        x.game(0, 1, 2, 3, 0);
        x.rests(0, 1, -1);
        x.odds(2, 37);
        x.shares(0, 500);
        x.ahead(500);
        x.image();
        x.undo();
        x.back();
    }
}
