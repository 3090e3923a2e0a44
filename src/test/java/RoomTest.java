import java.lang.management.ManagementFactory;

/** A run's calls live in one room: all objects are made with the object itself, none by its calls. */
public final class RoomTest {
    private static int wrong = 0;

    public static void main(String[] args) {
        OnlyStrangersHear x = new OnlyStrangersHear();
        String town = "b041;b122;b233;b091;b102;b111;pp005;pl703;po099;pw512;pd320;pc000;pp000;pp008;";
        allCalls(x, town);
        long made = 0;
        long madeByReading = 0;
        for (int i = 0; i < 10; i++) {
            OnlyStrangersHear y = new OnlyStrangersHear();
            long start = allocated();
            allCalls(y, town);
            long end = allocated();
            made += end - start;
            madeByReading += allocated() - end;
        }
        // The least object has 16 bytes: one in each run would make 160.
        check(made - madeByReading < 160, made - madeByReading + " bytes made by ten runs of calls");
        System.out.println(wrong == 0 ? "calls make no objects" : "calls make objects");
        if (wrong != 0) {
            System.exit(1);
        }
    }

    private static void check(boolean isSo, String what) {
        if (!isSo) {
            wrong++;
            System.out.println(what);
        }
    }

    private static long allocated() {
        var threads = (com.sun.management.ThreadMXBean) ManagementFactory.getThreadMXBean();
        return threads.getThreadAllocatedBytes(Thread.currentThread().getId());
    }

    private static void allCalls(OnlyStrangersHear x, String town) {
        for (int i = 0; i < town.length(); i++) {
            x.letter(town.charAt(i));
        }
        x.town();
        for (int b = 0; b < 6; b++) {
            for (int what = 0; what < 4; what++) {
                x.bell(b, what);
            }
            x.bellThen(b, 99, 1);
            x.rings(b, 40, 0);
            x.rings(b, 40, 1);
            x.send(b, 9, 40);
            x.ask(b);
            x.next(b);
            x.fog(b, 7, 20, 0);
        }
        for (int p = 0; p < 8; p++) {
            for (int what = 0; what < 5; what++) {
                x.person(p, what);
            }
            x.says(p, 0);
            x.personThen(p, 99, 0);
            x.deaf(p);
            x.nightsFor(p, 40);
            x.cost(p, 9, 0);
            x.two(p, (p + 1) % 8, 20);
            x.row(4);
            x.whatIs(p, 0, 0);
            x.whatIs(p, 0, 1);
        }
        x.lost(0);
        x.fewest(40);
        x.leave();
        x.right(1);
        x.right(2);
        x.clash(0);
        x.clash(1);
        x.agreed(1);
        x.hours(0);
        x.hours(1);
        x.bedsFor(40);
        x.together();
        x.mean(0);
        x.judge();
        x.clear();
        x.lots(20, 1, 0);
        x.image();
        x.goes(0, 9);
        x.sleeps(0, 9);
        x.beds(3);
        x.turn(0, 3, 3);
        x.days(60);
        x.on();
        x.count(4);
        x.count(99);
        x.bell(99, 0);
    }
}
