import com.sun.management.ThreadMXBean;
import java.lang.management.ManagementFactory;

/** All calls of a run live in one room: rows are made once and used again, so 512 dear calls take little of it. */
public final class RoomTest {
    private static final Check CHECK = new Check("RoomTest");
    private static final ThreadMXBean THREADS = (ThreadMXBean) ManagementFactory.getThreadMXBean();
    private static final String TEXT = "half a skill 3 cares 9;half b skill 1 cares 9;half c skill 5 cares 9;half d skill 7 cares 9;"
        + "half e skill 3 cares 9;half f skill 1 cares 9;half g skill 5 cares 9;half h skill 7 cares 9;"
        + "person p of a b turn 0 1 1 0 1 0 1 1 1 0 0 0 1 0;person q of c d turn 0 1 1;person r of e f turn 1;"
        + "person s of g h turn 1 0 0 0;like a to b 3;like b to c 4;"
        + "deed t joy load % 7 load load * 3 + 1;deed u joy load / 9 load load - 13;deed v joy skill load load + 1;"
        + "deed w joy day % 5 load 99 - load;deed x joy again * 9 load load + skill;deed y joy 0 load load * load % 89;";

    public static void main(String[] args) {
        // what the machine itself makes at first use is not counted
        run(new TwoInOne());
        long before = allocated();
        TwoInOne x = new TwoInOne();
        long made = allocated() - before;
        CHECK.due("a new object takes " + made + " bytes", made < 100000, true);
        before = allocated();
        run(x);
        long taken = allocated() - before;
        CHECK.due("512 calls take " + taken + " bytes", taken < 100000, true);
        wraps();
        CHECK.finish();
    }

    /** Where sums wrap there is more to keep: it is made once. Room for 7.3 million numbers is there. */
    private static void wraps() {
        TwoInOne x = Check.of(TEXT.replace("load % 7 load", "load*day*9973*9901 load").replace("day % 5 load", "day*day*7919 load"));
        long before = allocated();
        x.together(0, 4);
        long few = allocated() - before;
        CHECK.due("sums of few rows take " + few + " bytes", few < 400000, true);
        x.together(0, 20);
        long many = allocated() - before;
        CHECK.due("sums of many rows take " + many + " bytes", many > few && many < 5000000, true);
        for (int i = 0; i < 20; i++) {
            x.together(i % 4, 10 + i % 5);
        }
        CHECK.due("no more is taken", allocated() - before - many < 100000, true);
    }

    private static long allocated() {
        return THREADS.getThreadAllocatedBytes(Thread.currentThread().getId());
    }

    private static void run(TwoInOne x) {
        Check.write(x, TEXT);
        x.register();
        x.next(3);
        x.next(1);
        for (int i = 0; i < 26; i++) {
            x.days(30);
            x.decree(i % 4, i % 6);
            x.played(i % 4, i % 8, 20);
            x.together(i % 4, 20);
            x.breaks(i % 4, 20);
            x.cares(i % 4, 20);
            x.keeps(i % 4, i % 8, 20);
            x.pairing(i % 2 == 0);
            x.fast();
            x.sight(i, i % 8);
            x.alibis(i % 4, 9);
            x.who(i % 4, i, 9);
            x.stolen(99);
            x.image(i % 3);
            x.undo();
            x.redo();
            x.prank();
            x.die(i % 8);
        }
    }
}
