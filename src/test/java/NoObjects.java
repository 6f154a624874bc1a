import java.lang.management.ManagementFactory;

/** All calls of a run live in one room: no call makes an object, and a new object is small. */
public final class NoObjects {
    private static final Due D = new Due("NoObjects");
    private static final com.sun.management.ThreadMXBean BEAN =
            (com.sun.management.ThreadMXBean) ManagementFactory.getThreadMXBean();

    public static void main(String[] args) {
        KitchenDrift x = new KitchenDrift();
        everyCall(x);
        long before = bytes();
        for (int n = 0; n < 10; n++) {
            everyCall(x);
        }
        D.due("bytes by some calls, a little for the reading itself", bytes() - before < 2000 ? 0 : bytes() - before, 0);
        before = bytes();
        new KitchenDrift();
        D.due("bytes of a new object", bytes() - before < 20000 ? 0 : bytes() - before, 0);
        D.end();
    }

    private static long bytes() {
        return BEAN.getThreadAllocatedBytes(Thread.currentThread().getId());
    }

    private static void everyCall(KitchenDrift x) {
        x.rooms(6);
        for (int room = 0; room < 6; room++) {
            for (int what = 0; what < 6; what++) {
                x.room(room, what, 9 - what);
                x.door(room, what, 3);
            }
        }
        for (int g = 0; g < 8; g++) {
            x.guest(g, g % 6);
            for (int sort = 0; sort < 5; sort++) {
                x.likes(g, sort, (g * sort + 1) % 7 - 3);
            }
        }
        party(x);
        x.draw(0, 5);
        x.goes(3);
        x.after(1, 99);
        x.crowd(1, 99);
        x.still();
        x.round();
        x.throng(99);
        x.carried(20, 1);
        x.hinges(20, 1);
        x.best(4);
        x.rests(63, -1);
        x.rests(252, 7);
        x.led(2, 8, 20, 1);
        x.excuses(2, 5, 1);
        x.seen(3, 3);
        x.tastes(3, 4);
        x.forget();
        x.drunk(0, 5, 3, 6, 1);
        x.year(9999, 99, 0);
        x.image(0);
        x.restore(0);
        x.told(8004);
        x.leave(7);
    }

    private static void party(KitchenDrift x) {
        x.wipe();
        for (int n = 0; n < 7; n++) {
            x.say('A');
            x.say('_');
            x.say('.');
            x.say('a');
            x.say('b');
            x.say('0');
            x.say('A');
            x.say('^');
        }
        x.fault();
        x.judge(1);
        x.behind(0, 0);
        x.done();
        x.state(0, 1);
    }
}
