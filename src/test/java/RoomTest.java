import java.lang.management.ManagementFactory;

/** What calls make is kept small: an object's own rows, a quarrel's rows as it is told, a feeling; nothing else. */
public final class RoomTest {
    private static int wrong = 0;
    private static boolean measured = false;

    private static final com.sun.management.ThreadMXBean THREADS =
            (com.sun.management.ThreadMXBean) ManagementFactory.getThreadMXBean();

    private static long made() {
        return THREADS.getThreadAllocatedBytes(Thread.currentThread().getId());
    }

    private static void check(String what, long bytes, long most) {
        if (measured && bytes > most) {
            wrong++;
            System.out.println(what + " made " + bytes + " bytes, at most " + most + " are due");
        }
    }

    public static void main(String[] args) {
        // The first time the machine makes objects of its own, as it loads classes.
        calls();
        measured = true;
        calls();
        System.out.println(wrong == 0 ? "the room is kept small" : wrong + " take too much room");
        if (wrong != 0) {
            System.exit(1);
        }
    }

    private static void calls() {
        byte[] text = ("A=?(0:1,0:2,0:3,0:4);B=?(0:A,0:A,0:A,0:A);C=?(0:A,0:A,0:?(0:1,0:1));D=?(0:B,0:C);"
                + "?(0:B,0:B,0:B,0:D)").getBytes();
        long before = made();
        SueOrSettle x = new SueOrSettle();
        check("an object", made() - before, 26000);
        for (int thing = 0; thing < 4; thing++) {
            x.thing(3);
            x.hang(thing, 0);
        }
        before = made();
        for (int i = 0; i < 8; i++) {
            for (byte sign : text) {
                x.feed(1, sign);
            }
            x.quarrel();
        }
        check("six quarrels", made() - before, 52000);
        before = made();
        for (int i = 0; i < 25; i++) {
            x.feeling(i % 6, 50);
        }
        check("twenty feelings", made() - before, 1000);
        before = made();
        for (int i = 0; i < 40; i++) {
            dearCalls(x, i);
        }
        check("dear calls", made() - before, 200);
    }

    private static void dearCalls(SueOrSettle x, int i) {
        int q = i % 6;
        x.weight(i % 4, 0, 0, 1 + i);
        x.change(q, 0, 0, i);
        x.best(q, i % 20, 0);
        x.best(q, i % 20, 2);
        x.judge(q, i % 20, 1);
        x.shortOf(q, i % 20);
        x.fork(q, 0, 0, 0);
        x.tell(q, 3);
        x.ask(q, -1, 0);
        x.together(q, 0, 1, 0);
        x.first(q);
        x.edge(q, 0, 1);
        x.edgeOf(q, 0, 0, 1);
        x.most(q);
        x.doubt(q, 0, 120, 1);
        x.worst(q, 0, 120, 0);
        x.table(4, 4);
        x.sure(-1);
        x.struck(0);
        x.sort(1, 50, 5);
        x.offer(i);
        x.holds(5, 0);
        x.effort(i, 50);
        x.hired(900, 2);
        x.row(i % 6, 1, 60);
        x.days(i % 6, 0, 20);
        x.waits(20, 5, 1);
        x.run(q, i, 200);
        x.act(i % 20, 3, i);
        x.shift(i % 6, 0, i % 6, 5, 40);
        x.undo();
        x.redo();
    }
}
