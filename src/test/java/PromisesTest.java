import java.util.Arrays;
import java.util.function.ToLongFunction;

/** Each promise of the document with answers worked out by hand: ordinary, at the edges, refused. */
public final class PromisesTest {
    /** Two hear no bell but of hour 4 or none at all; of the others each is of another kind. */
    private static final String TOWN = "b041;b122;b233;pp005;pl703;po099;pw512;pd320;pc000;";

    private static final String FOGGY = "b091;b041;pp007;";

    private static int checked = 0;
    private static int wrong = 0;

    public static void main(String[] args) {
        newObject();
        letter();
        town();
        townFaults();
        townChangesAllOrNothing();
        bell();
        person();
        says();
        goes();
        sleeps();
        beds();
        turn();
        days();
        personThen();
        bellThen();
        deaf();
        lost();
        rings();
        send();
        nightsFor();
        fewest();
        ask();
        leave();
        right();
        clash();
        agreed();
        hours();
        bedsFor();
        next();
        together();
        cost();
        two();
        fog();
        mean();
        whatIs();
        row();
        judge();
        clear();
        lots();
        imageAndOn();
        count();
        thoughtChangesNothing();
        beyondDay999();
        readme();
        System.out.println(wrong == 0 ? checked + " answers are as due" : wrong + " of " + checked + " answers are not as due");
        if (wrong != 0) {
            System.exit(1);
        }
    }

    // ---- helpers ----

    private static void due(String call, long got, long want) {
        checked++;
        if (got != want) {
            wrong++;
            System.out.println(call + " answered " + got + ", due is " + want);
        }
    }

    private static int tell(OnlyStrangersHear x, String text) {
        for (int i = 0; i < text.length(); i++) {
            x.letter(text.charAt(i));
        }
        return x.town();
    }

    private static OnlyStrangersHear of(String text) {
        OnlyStrangersHear x = new OnlyStrangersHear();
        int answer = tell(x, text);
        if (answer < 1) {
            due("town() of " + text, answer, 1);
        }
        return x;
    }

    private static void fill(OnlyStrangersHear x, int... values) {
        x.clear();
        for (int v : values) {
            x.row(v);
        }
    }

    private static int[] times(int many, int value) {
        int[] values = new int[many];
        Arrays.fill(values, value);
        return values;
    }

    /** All that can be seen of an object without its REFUSALS. */
    private static long[] seen(OnlyStrangersHear x) {
        long[] all = new long[8 + 2 * 6 + 5 * 8];
        int at = 0;
        for (int what = 0; what <= 7; what++) {
            all[at++] = x.count(what);
        }
        for (int b = 0; b < x.count(0); b++) {
            all[at++] = x.bell(b, 0);
            all[at++] = x.bell(b, 1);
        }
        for (int p = 0; p < x.count(1); p++) {
            for (int what = 0; what < 5; what++) {
                all[at++] = x.person(p, what);
            }
        }
        return all;
    }

    private static int[] refusals(OnlyStrangersHear x) {
        int[] all = new int[6];
        for (int i = 0; i < 6; i++) {
            all[i] = x.count(11 + i);
        }
        return all;
    }

    /** The call is refused as told, and nothing but the count of that refusal changes. */
    private static void refused(OnlyStrangersHear x, String call, ToLongFunction<OnlyStrangersHear> it, int no) {
        refusedAs(x, call, it, no, no);
    }

    private static void refusedAs(OnlyStrangersHear x, String call, ToLongFunction<OnlyStrangersHear> it, int no, long answer) {
        long[] before = seen(x);
        int[] counts = refusals(x);
        due(call, it.applyAsLong(x), answer);
        counts[-no - 1]++;
        due(call + ": refusals as counted", Arrays.equals(counts, refusals(x)) ? 1 : 0, 1);
        due(call + ": all else as before", Arrays.equals(before, seen(x)) ? 1 : 0, 1);
    }

    private static void refusedCost(OnlyStrangersHear x, String call, ToLongFunction<OnlyStrangersHear> it, int no) {
        refusedAs(x, call, it, no, 1000000000L - no);
    }

    private static void refusedLong(OnlyStrangersHear x, String call, ToLongFunction<OnlyStrangersHear> it, int no) {
        refusedAs(x, call, it, no, 4000000000000000000L - no);
    }

    // ---- promises 1 to 11: the town and what changes it ----

    private static void newObject() {
        OnlyStrangersHear x = new OnlyStrangersHear();
        int[] counts = {0, 0, 0, 8, 0, 0, 0, 0, -9, -9, -9, 0, 0, 0, 0, 0, 0, -9};
        for (int what = 0; what < counts.length; what++) {
            due("new: count(" + what + ")", x.count(what), counts[what]);
        }
        due("new: on()", x.on(), -3);
        due("new: clear()", x.clear(), 0);
    }

    private static void letter() {
        OnlyStrangersHear x = new OnlyStrangersHear();
        due("letter(0)", x.letter(0), 1);
        due("letter(255)", x.letter(255), 2);
        refused(x, "letter(-1)", o -> o.letter(-1), -4);
        refused(x, "letter(256)", o -> o.letter(256), -6);
        refused(x, "letter(least)", o -> o.letter(Integer.MIN_VALUE), -4);
        refused(x, "letter(greatest)", o -> o.letter(Integer.MAX_VALUE), -6);
        for (int i = 3; i <= 96; i++) {
            due("letter " + i, x.letter('b'), i);
        }
        due("count(7) full", x.count(7), 96);
        refused(x, "letter 97", o -> o.letter('b'), -6);
        refused(x, "letter(-1) full", o -> o.letter(-1), -4);
        due("town() of sign 0", x.town(), -1000);
        due("count(7) behind town()", x.count(7), 0);
        due("letter behind town()", x.letter('b'), 1);
    }

    private static void town() {
        OnlyStrangersHear x = new OnlyStrangersHear();
        due("town", tell(x, TOWN), 9);
        due("bells", x.count(0), 3);
        due("people", x.count(1), 6);
        due("town more", tell(x, "b179;g14;s207;e2;d60;"), 5);
        due("bell more", x.bell(3, 0), 17);
        due("every more", x.bell(3, 1), 9);
        due("beds", x.count(3), 2);
        due("day", x.count(2), 60);
        due("one with a bed", x.person(0, 2), 65);
        due("one back after 4 nights of 60", x.person(1, 2), 56);
        due("one with a bed for 4 nights", x.person(2, 2), 0);
        due("he comes back", tell(x, "g29;g20;"), 2);
        due("he is back", x.person(2, 3), 0);
        due("96 letters", tell(new OnlyStrangersHear(), "d01;".repeat(24)), 24);
        due("8 beds told", of("e1;e8;").count(3), 8);
        OnlyStrangersHear full = of("pp000;pc111;pw222;pd333;pl444;po555;pp699;pc700;b001;b239;b041;b052;b063;b074;");
        for (int p = 0; p < 8; p++) {
            due("kind of " + p, full.person(p, 0), p % 6);
            due("figure of " + p, full.person(p, 1), p);
        }
        due("hour 0", full.bell(0, 0), 0);
        due("hour 23", full.bell(1, 0), 23);
        due("goes 9", tell(full, "g79;s799;"), 2);
        due("away 9", full.person(7, 3), 9);
        due("slept 99", full.person(7, 2), 99);
    }

    private static void fault(String text, int want) {
        OnlyStrangersHear x = of("b041;pp005;");
        long[] before = seen(x);
        int[] counts = refusals(x);
        due("town() of '" + text + "'", tell(x, text), want);
        due("town() of '" + text + "': all as before", Arrays.equals(before, seen(x)) ? 1 : 0, 1);
        due("town() of '" + text + "': no refusal", Arrays.equals(counts, refusals(x)) ? 1 : 0, 1);
    }

    private static void townFaults() {
        fault("", -1000);
        fault(";", -1000);
        fault(" b041;", -1000);
        fault("B041;", -1000);
        fault("b", -1001);
        fault("b0", -1002);
        fault("b041", -1004);
        fault("b041,", -1004);
        fault("b041;;", -1005);
        fault("b041;p", -1006);
        fault("b0411;", -1004);
        fault("bx41;", -1001);
        fault("b0x1;", -1002);
        fault("b04x;", -1003);
        fault("b04/;", -1003);
        fault("b04:;", -1003);
        fault("b04" + (char) 178 + ";", -1003);
        fault("p0000;", -1001);
        fault("pb000;", -1001);
        fault("p;", -1001);
        fault("ppp00;", -1002);
        fault("pp0000;", -1005);
        fault("g0;", -1002);
        fault("s000", -1004);
        fault("s00;", -1003);
        fault("e;", -1001);
        fault("e11;", -1002);
        fault("d1;", -1002);
        fault("d011;", -1003);
        fault("b041;pp005;g", -1012);

        fault("b241;", -2000);
        fault("b991;", -2000);
        fault("b230;", -2000);
        fault("g10;", -2000);
        fault("s100;", -2000);
        fault("s900;", -2000);
        fault("e0;", -2000);
        fault("e9;", -2000);
        fault("d00;", -2000);
        fault("d61;", -2000);
        fault("pp000;g20;", -2006);
        fault("e3;s500;pp000;", -2003);
        fault("b041;b051;b061;b071;b081;b091;", -2025);
        fault("pp000;pp000;pp000;pp000;pp000;pp000;pp000;pp000;", -2042);
        fault("d60;".repeat(17), -2064);
        fault("d60;".repeat(16) + "d40;", -2064);
        fault("b241;x", -1005);
        fault("b241;e0;b24", -1011);

        OnlyStrangersHear x = of("d60;".repeat(16) + "d39;");
        due("day 999", x.count(2), 999);
        due("a day too many", tell(x, "e1;d01;"), -2003);
        due("beds as they were", x.count(3), 8);
        OnlyStrangersHear y = new OnlyStrangersHear();
        due("96 letters of which one lacks", tell(y, "d01;".repeat(23) + "d011"), -1095);
        due("96 letters without an end", tell(y, "d01;".repeat(23) + "b041"), -1096);
    }

    private static void townChangesAllOrNothing() {
        OnlyStrangersHear x = of("pp005;");
        due("a fault behind all that could come", tell(x, "b041;pp000;g03;s077;e1;d05;g90;"), -2027);
        due("no bell", x.count(0), 0);
        due("nobody more", x.count(1), 1);
        due("slept as it was", x.person(0, 2), 5);
        due("he is here", x.person(0, 3), 0);
        due("day 0", x.count(2), 0);
        due("8 beds", x.count(3), 8);
        due("nobody more, after an image of nobody", whoAfterImage(), 0);
    }

    private static int whoAfterImage() {
        OnlyStrangersHear x = new OnlyStrangersHear();
        x.image();
        tell(x, "pp000;g05;");
        x.on();
        tell(x, "pp000;");
        return x.person(0, 3);
    }

    private static void bell() {
        OnlyStrangersHear x = of(TOWN);
        int[][] due = {{4, 1, 31, 4}, {12, 2, 27, 12}, {23, 3, 27, 23}};
        for (int b = 0; b < 3; b++) {
            for (int what = 0; what < 4; what++) {
                due("bell(" + b + ", " + what + ")", x.bell(b, what), due[b][what]);
            }
        }
        refused(of(TOWN), "bell(3, 0)", o -> o.bell(3, 0), -1);
        refused(of(TOWN), "bell(-1, 0)", o -> o.bell(-1, 0), -1);
        refused(of(TOWN), "bell(0, 4)", o -> o.bell(0, 4), -2);
        refused(of(TOWN), "bell(0, -1)", o -> o.bell(0, -1), -2);
        refused(of(TOWN), "bell(3, 4)", o -> o.bell(3, 4), -1);
        refused(of(TOWN), "bell(least, least)", o -> o.bell(Integer.MIN_VALUE, Integer.MIN_VALUE), -1);
        refused(of(TOWN), "bell(greatest, 0)", o -> o.bell(Integer.MAX_VALUE, 0), -1);
        due("the least of two hours", of("b231;pp000;pd000;").bell(0, 3), 0);
        due("the least, though told later", of("b091;pl900;pp000;").bell(0, 3), 9);
        due("two of three are late", of("b091;pp000;pd000;pl100;").bell(0, 3), 10);
        due("nobody", of("b091;pc000;").bell(0, 3), -9);
        due("one who is nine late", of("b091;pl900;").bell(0, 3), 18);
        due("nobody hears", of("b091;pc000;").bell(0, 2), 0);
        due("one away", of("b091;pp000;g01;").bell(0, 2), 0);
        due("an old one away", of("b041;po000;g01;").bell(0, 2), 0);
        due("an old one, hour 5", of("b051;po000;").bell(0, 2), 0);
        due("a child, hour 4", of("b041;pc000;").bell(0, 2), 0);
        due("nights less one", of("b091;pp008;pp009;pw210;pw211;pd221;pd222;pl908;pl909;").bell(0, 2), 0b01010101);
    }

    private static void person() {
        OnlyStrangersHear x = of(TOWN);
        int[][] due = {{0, 0, 5, 0, 9}, {4, 7, 3, 0, 9}, {5, 0, 99, 0, 0}, {2, 5, 12, 0, 14}, {3, 3, 20, 0, 24}, {1, 0, 0, 0, 0}};
        for (int p = 0; p < 6; p++) {
            for (int what = 0; what < 5; what++) {
                due("person(" + p + ", " + what + ")", x.person(p, what), due[p][what]);
            }
        }
        due("nights of w9", of("pw900;").person(0, 4), 18);
        due("nights of d9", of("pd900;").person(0, 4), 36);
        due("nights of d0", of("pd000;").person(0, 4), 18);
        refused(of(TOWN), "person(6, 0)", o -> o.person(6, 0), -1);
        refused(of(TOWN), "person(-1, 9)", o -> o.person(-1, 9), -1);
        refused(of(TOWN), "person(0, 5)", o -> o.person(0, 5), -2);
        refused(of(TOWN), "person(0, -1)", o -> o.person(0, -1), -2);
    }

    private static void says() {
        OnlyStrangersHear x = of(TOWN);
        int[][] due = {{4, 12, 23}, {11, 19, 6}, {4, -9, -9}, {4, 12, 23}, {5, 13, 0}, {-9, -9, -9}};
        for (int p = 0; p < 6; p++) {
            for (int b = 0; b < 3; b++) {
                due("says(" + p + ", " + b + ")", x.says(p, b), due[p][b]);
            }
        }
        x.goes(2, 1);
        due("says of one away", x.says(2, 0), -9);
        refused(of(TOWN), "says(6, 0)", o -> o.says(6, 0), -1);
        refused(of(TOWN), "says(0, 3)", o -> o.says(0, 3), -1);
        refused(of(TOWN), "says(-1, -1)", o -> o.says(-1, -1), -1);
    }

    private static void goes() {
        OnlyStrangersHear x = of(TOWN);
        due("goes(0, 9)", x.goes(0, 9), 0);
        due("goes(0, 3)", x.goes(0, 3), 9);
        due("away", x.person(0, 3), 3);
        due("others are here", x.person(1, 3), 0);
        due("goes(0, 0)", x.goes(0, 0), 3);
        due("back", x.person(0, 3), 0);
        refused(of(TOWN), "goes(6, 0)", o -> o.goes(6, 0), -1);
        refused(of(TOWN), "goes(6, -1)", o -> o.goes(6, -1), -1);
        refused(of(TOWN), "goes(0, -1)", o -> o.goes(0, -1), -4);
        refused(of(TOWN), "goes(0, 10)", o -> o.goes(0, 10), -6);
    }

    private static void sleeps() {
        OnlyStrangersHear x = of(TOWN);
        due("sleeps(0, 99)", x.sleeps(0, 99), 5);
        due("sleeps(0, 0)", x.sleeps(0, 0), 99);
        due("slept", x.person(0, 2), 0);
        due("others as they were", x.person(1, 2), 3);
        refused(of(TOWN), "sleeps(-1, 100)", o -> o.sleeps(-1, 100), -1);
        refused(of(TOWN), "sleeps(0, -1)", o -> o.sleeps(0, -1), -4);
        refused(of(TOWN), "sleeps(0, 100)", o -> o.sleeps(0, 100), -6);
    }

    private static void beds() {
        OnlyStrangersHear x = of(TOWN);
        due("beds(1)", x.beds(1), 8);
        due("beds(8)", x.beds(8), 1);
        due("beds", x.count(3), 8);
        refused(of(TOWN), "beds(0)", o -> o.beds(0), -4);
        refused(of(TOWN), "beds(9)", o -> o.beds(9), -6);
        refused(of(TOWN), "beds(least)", o -> o.beds(Integer.MIN_VALUE), -4);
    }

    private static void turn() {
        OnlyStrangersHear x = of(TOWN);
        due("turn(4, 5, 9)", x.turn(4, 5, 9), 33);
        due("turn(4, 0, 0)", x.turn(4, 0, 0), 59);
        due("slept stays", x.person(4, 2), 20);
        due("turn(0, 3, 9)", x.turn(0, 3, 9), 0);
        due("a dane says later", x.says(0, 2), 0);
        due("and hears longer", x.person(0, 4), 36);
        refused(of(TOWN), "turn(6, 6, -1)", o -> o.turn(6, 6, -1), -1);
        refused(of(TOWN), "turn(0, 6, -1)", o -> o.turn(0, 6, -1), -2);
        refused(of(TOWN), "turn(0, -1, 10)", o -> o.turn(0, -1, 10), -2);
        refused(of(TOWN), "turn(0, 5, -1)", o -> o.turn(0, 5, -1), -4);
        refused(of(TOWN), "turn(0, 5, 10)", o -> o.turn(0, 5, 10), -6);
    }

    private static void days() {
        OnlyStrangersHear x = of(TOWN);
        due("days(4)", x.days(4), 2);
        due("day 4", x.count(2), 4);
        int[] slept = {9, 7, 99, 16, 24, 4};
        for (int p = 0; p < 6; p++) {
            due("slept of " + p, x.person(p, 2), slept[p]);
        }
        refused(of(TOWN), "days(0)", o -> o.days(0), -4);
        refused(of(TOWN), "days(61)", o -> o.days(61), -6);
        refused(of(TOWN), "days(greatest)", o -> o.days(Integer.MAX_VALUE), -6);
        refused(of(TOWN), "days(least)", o -> o.days(Integer.MIN_VALUE), -4);

        OnlyStrangersHear few = of("b091;pp005;pp005;pp001;pp005;pp098;e2;g03;");
        few.days(1);
        int[] one = {3, 6, 2, 4, 97};
        for (int p = 0; p < 5; p++) {
            due("2 beds, slept of " + p, few.person(p, 2), one[p]);
        }
        due("away one less", few.person(0, 3), 2);
        due("3 more", few.days(3), 3);
        int[] four = {1, 9, 3, 1, 94};
        for (int p = 0; p < 5; p++) {
            due("2 beds, slept then of " + p, few.person(p, 2), four[p]);
        }

        OnlyStrangersHear late = of("d60;".repeat(16));
        refused(late, "days(40) at 960", o -> o.days(40), -6);
        due("days(39)", late.days(39), 0);
        due("day 999", late.count(2), 999);
        refused(late, "days(1) at 999", o -> o.days(1), -6);
    }

    // ---- promises 12 to 18: what comes ----

    private static void personThen() {
        OnlyStrangersHear x = of(TOWN);
        due("personThen(0, 0, 0)", x.personThen(0, 0, 0), 5);
        due("personThen(0, 99, 0)", x.personThen(0, 99, 0), 99);
        due("personThen(3, 10, 0)", x.personThen(3, 10, 0), 22);
        x.goes(0, 1);
        due("back behind a night, slept", x.personThen(0, 2, 0), 4);
        due("back behind a night", x.personThen(0, 2, 1), 0);
        x.goes(0, 3);
        int[] slept = {5, 3, 1, 0, 1, 2};
        int[] away = {3, 2, 1, 0, 0, 0};
        for (int n = 0; n < 6; n++) {
            due("personThen(0, " + n + ", 0)", x.personThen(0, n, 0), slept[n]);
            due("personThen(0, " + n + ", 1)", x.personThen(0, n, 1), away[n]);
        }
        x.beds(2);
        due("2 as long as 0 is away", x.personThen(2, 3, 0), 99);
        due("2 without a bed", x.personThen(2, 4, 0), 98);
        due("5 never below 0", x.personThen(5, 50, 0), 0);
        refused(of(TOWN), "personThen(6, -1, 2)", o -> o.personThen(6, -1, 2), -1);
        refused(of(TOWN), "personThen(0, -1, 2)", o -> o.personThen(0, -1, 2), -4);
        refused(of(TOWN), "personThen(0, 100, 2)", o -> o.personThen(0, 100, 2), -6);
        refused(of(TOWN), "personThen(0, 99, 2)", o -> o.personThen(0, 99, 2), -2);
        refused(of(TOWN), "personThen(0, 0, -1)", o -> o.personThen(0, 0, -1), -2);
    }

    private static void bellThen() {
        OnlyStrangersHear x = of(TOWN);
        due("bellThen(0, 4, 0)", x.bellThen(0, 4, 0), 6);
        due("bellThen(1, 4, 1)", x.bellThen(1, 4, 1), 19);
        due("bellThen(1, 3, 1)", x.bellThen(1, 3, 1), -9);
        due("bellThen(1, 3, 0)", x.bellThen(1, 3, 0), 19);
        due("bellThen(1, 6, 1)", x.bellThen(1, 6, 1), -9);
        due("bellThen(2, 0, 1)", x.bellThen(2, 0, 1), 23);
        due("bellThen(0, 99, 1)", x.bellThen(0, 99, 1), 4);
        x.days(1);
        due("bellThen(1, 0, 1)", x.bellThen(1, 0, 1), -9);
        due("bellThen(1, 1, 1)", x.bellThen(1, 1, 1), 12);
        refused(of(TOWN), "bellThen(3, -1, 2)", o -> o.bellThen(3, -1, 2), -1);
        refused(of(TOWN), "bellThen(0, -1, 2)", o -> o.bellThen(0, -1, 2), -4);
        refused(of(TOWN), "bellThen(0, 100, 2)", o -> o.bellThen(0, 100, 2), -6);
        refused(of(TOWN), "bellThen(0, 99, 2)", o -> o.bellThen(0, 99, 2), -2);
    }

    private static void deaf() {
        OnlyStrangersHear x = of(TOWN);
        int[] due = {4, 6, -9, 2, 4, 0};
        for (int p = 0; p < 6; p++) {
            due("deaf(" + p + ")", x.deaf(p), due[p]);
        }
        x.goes(2, 9);
        due("deaf of one away", x.deaf(2), 0);
        x.beds(1);
        due("deaf without a bed", x.deaf(1), -9);
        due("deaf without bells", of("pp000;").deaf(0), 0);
        due("deaf of d9", of("b001;pd900;").deaf(0), 36);
        refused(of(TOWN), "deaf(6)", o -> o.deaf(6), -1);
        refused(of(TOWN), "deaf(-1)", o -> o.deaf(-1), -1);
    }

    private static void lost() {
        OnlyStrangersHear x = of(TOWN);
        due("lost(0)", x.lost(0), 1);
        due("lost(1)", x.lost(1), 6);
        due("lost(0) of those heard now", of("b041;b091;po000;").lost(0), -9);
        due("lost(1) of those heard now", of("b041;b091;po000;").lost(1), -9);
        due("lost(0) next day", of("b051;b041;po000;pp008;").lost(0), 0);
        due("lost(1) next day", of("b051;b041;po000;pp008;").lost(1), 1);
        due("lost(0) without bells", of("pp000;").lost(0), -9);
        refused(of(TOWN), "lost(2)", o -> o.lost(2), -2);
        refused(of(TOWN), "lost(-1)", o -> o.lost(-1), -2);
    }

    private static void rings() {
        OnlyStrangersHear x = of(TOWN);
        due("rings(1, 10, 0)", x.rings(1, 10, 0), 1);
        due("rings(1, 10, 1)", x.rings(1, 10, 1), 3);
        due("rings(1, 1, 0)", x.rings(1, 1, 0), 0);
        due("rings(0, 40, 0)", x.rings(0, 40, 0), 40);
        due("rings(0, 40, 1)", x.rings(0, 40, 1), 0);
        due("rings(2, 40, 1)", x.rings(2, 40, 1), 12);
        due("rings(0, 40, 1) for nobody", of("b091;").rings(0, 40, 1), 40);
        due("rings(0, 1, 1) for nobody", of("b091;").rings(0, 1, 1), 1);
        refused(of(TOWN), "rings(3, 0, 2)", o -> o.rings(3, 0, 2), -1);
        refused(of(TOWN), "rings(0, 0, 2)", o -> o.rings(0, 0, 2), -4);
        refused(of(TOWN), "rings(0, 41, 2)", o -> o.rings(0, 41, 2), -6);
        refused(of(TOWN), "rings(0, 40, 2)", o -> o.rings(0, 40, 2), -2);
    }

    private static void send() {
        due("send one who hears no more", of("b091;pp008;").send(0, 1, 5), 0);
        due("send the least of two", of("b091;pc000;pp008;pp008;").send(0, 1, 5), 1);
        due("send nobody", of("b091;pp000;").send(0, 1, 5), -9);
        due("send nobody of none", of("b091;").send(0, 9, 40), -9);
        due("send a liar of two", of("b091;pp000;pl500;pl500;").send(0, 3, 5), 1);
        due("send no liar if his hour is less", of("b201;pp000;pl500;pl500;").send(0, 3, 5), -9);
        due("send by days it rings alone", of("b095;pp008;").send(0, 1, 4), -9);
        due("send, too late", of("b092;pp008;").send(0, 3, 2), -9);
        due("send, another bell counts not", of("b092;b043;pp008;").send(0, 3, 3), -9);
        due("send, for the other bell", of("b092;b043;pp008;").send(1, 3, 3), 0);
        due("send the better of two", of("b091;pp012;pp008;").send(0, 2, 8), 1);
        refused(of(TOWN), "send(3, 0, 41)", o -> o.send(3, 0, 41), -1);
        refused(of(TOWN), "send(0, 0, 41)", o -> o.send(0, 0, 41), -4);
        refused(of(TOWN), "send(0, 10, 0)", o -> o.send(0, 10, 0), -4);
        refused(of(TOWN), "send(0, 10, 1)", o -> o.send(0, 10, 1), -6);
        refused(of(TOWN), "send(0, 1, 41)", o -> o.send(0, 1, 41), -6);
    }

    private static void nightsFor() {
        OnlyStrangersHear x = of("b091;pp008;");
        due("nightsFor(0, 1)", x.nightsFor(0, 1), 1);
        due("nightsFor(0, 3)", x.nightsFor(0, 3), 1);
        due("nightsFor(0, 4), of several the fewest", x.nightsFor(0, 4), 1);
        due("nightsFor(0, 5)", x.nightsFor(0, 5), 2);
        due("nightsFor(0, 40)", x.nightsFor(0, 40), 4);
        due("nightsFor of one who hears on", of("b091;pp000;").nightsFor(0, 5), -9);
        due("nightsFor without bells", of("pp008;").nightsFor(0, 40), -9);
        due("nightsFor by bells together", of("b092;b103;pp008;").nightsFor(0, 3), 1);
        due("nightsFor, nine", of("b091;pp026;").nightsFor(0, 9), 9);
        due("nightsFor, nine were too many", of("b091;pp026;").nightsFor(0, 8), -9);
        refused(of("b091;pp008;"), "nightsFor(1, 0)", o -> o.nightsFor(1, 0), -1);
        refused(of("b091;pp008;"), "nightsFor(0, 0)", o -> o.nightsFor(0, 0), -4);
        refused(of("b091;pp008;"), "nightsFor(0, 41)", o -> o.nightsFor(0, 41), -6);
    }

    // ---- promises 19 to 30: whom to send, to ask, to leave out ----

    private static void fewest() {
        due("fewest, nobody", of("b091;pp000;").fewest(0), 0);
        due("fewest, the least", of("b091;pc000;pp008;pp008;").fewest(5), 2);
        due("fewest, not the child", of("b091;pc000;pc000;pp008;").fewest(5), 4);
        due("fewest, too soon", of("b091;pp009;").fewest(4), -9);
        due("fewest, just back", of("b091;pp009;").fewest(5), 1);
        due("fewest, deaf again", of("b091;pp009;").fewest(14), -9);
        due("fewest, still", of("b091;pp009;").fewest(13), 1);
        due("fewest of no bells", of("pp009;").fewest(40), 0);
        due("fewest of nobody", of("b091;").fewest(40), -9);
        due("fewest with one whose bell another can not hear", of("b041;b091;pp009;po000;").fewest(5), 1);
        refused(of(TOWN), "fewest(-1)", o -> o.fewest(-1), -4);
        refused(of(TOWN), "fewest(41)", o -> o.fewest(41), -6);
    }

    private static void ask() {
        OnlyStrangersHear x = of(TOWN);
        due("ask(0)", x.ask(0), 2);
        due("ask(1)", x.ask(1), 0);
        due("ask, of several the least", of("b091;pc000;pp003;pp003;").ask(0), 1);
        due("ask, a later one longer", of("b091;pp003;pp002;").ask(0), 1);
        due("ask, a later one by a day", of("b091;pp002;pp001;").ask(0), 1);
        due("ask a liar who tells no lie", of("b091;pl000;").ask(0), 0);
        due("ask no liar", of("b091;pl100;pd000;").ask(0), -9);
        due("ask no dane though he hears longer", of("b091;pd900;pp008;").ask(0), 1);
        due("ask, two who hear for ever", of("b041;pp000;po000;po000;").ask(0), 1);
        due("ask nobody", of("b091;").ask(0), -9);
        refused(of(TOWN), "ask(3)", o -> o.ask(3), -1);
        refused(of(TOWN), "ask(-1)", o -> o.ask(-1), -1);
    }

    private static void leave() {
        due("leave() if all is right", of(TOWN).leave(), -9);
        due("leave() the dane", of("b231;pp000;pd000;").leave(), 1);
        due("leave() the dane who came first", of("b231;pd000;pp000;").leave(), 0);
        due("leave() the least of two", of("b231;pp000;pp000;pd000;pd000;").leave(), 2);
        due("leave() nobody if it helps not", of("b231;pp000;pd000;pd000;").leave(), -9);
        due("leave() without bells", of("pp000;").leave(), -9);
        due("leave() the one by whom most is right", of("b201;b231;pp000;pd000;").leave(), 1);
        due("leave() of a new object", new OnlyStrangersHear().leave(), -9);
    }

    private static void right() {
        OnlyStrangersHear x = of(TOWN);
        due("right(0)", x.right(0), 3);
        due("right(1)", x.right(1), 0);
        due("right(2)", x.right(2), 2);
        OnlyStrangersHear y = of("b231;b041;b093;po000;pd000;pd000;");
        due("right(0) of danes", y.right(0), 0);
        due("right(1) of danes", y.right(1), 3);
        OnlyStrangersHear z = of("b041;b091;po000;d01;");
        due("right(0), nobody hears one", z.right(0), 1);
        due("right(1), nobody hears one", z.right(1), 0);
        due("right(0), none rings today", of("b239;pp000;d01;").right(0), 1);
        due("right(2), of several the least", of("b091;pc000;pp003;pp003;").right(2), 1);
        due("right(2), the later", of("b091;pp003;pp002;").right(2), 1);
        due("right(2), the later by a day", of("b091;pp002;pp001;").right(2), 1);
        due("right(2), nobody", of("b091;pc000;").right(2), -9);
        due("right(2), never behind late", of("b041;pd900;po000;").right(2), 1);
        refused(of(TOWN), "right(3)", o -> o.right(3), -2);
        refused(of(TOWN), "right(-1)", o -> o.right(-1), -2);
    }

    private static void clash() {
        OnlyStrangersHear x = of(TOWN);
        due("clash(0)", x.clash(0), 7);
        due("clash(1)", x.clash(1), 1);
        due("clash(1) of later ones", of("b091;pc000;pp000;pl500;").clash(1), 12);
        due("clash(0) of one late alike", of("b091;pd000;pl100;").clash(0), 0);
        due("clash(1) of none", of("b091;pd000;pl100;").clash(1), -9);
        due("clash(0) without a bell of both", of("b041;b091;po000;pl509;").clash(0), 0);
        due("clash(0) in one bell of two", of("b041;b091;po000;pl500;").clash(0), 1);
        due("clash(0) of one away", of("b091;pp000;pl500;g01;").clash(0), 0);
        refused(of(TOWN), "clash(2)", o -> o.clash(2), -2);
        refused(of(TOWN), "clash(-1)", o -> o.clash(-1), -2);
    }

    private static void agreed() {
        OnlyStrangersHear x = of(TOWN);
        due("agreed(0)", x.agreed(0), 3);
        due("agreed(1)", x.agreed(1), 13);
        due("agreed(1), of several the least", of("b091;pp000;pl500;").agreed(1), 1);
        due("agreed(1), the more", of("b091;pp000;pd000;pl100;").agreed(1), 6);
        due("agreed(0) of deaf ones", of("b091;pc000;po000;").agreed(0), 0);
        due("agreed(1) of deaf ones", of("b091;pc000;po000;").agreed(1), 0);
        due("agreed(1) of all eight", of("b041;" + "po000;".repeat(8)).agreed(1), 255);
        OnlyStrangersHear y = of("b091;pp000;pl500;");
        due("agreed(0) of two", y.agreed(0), 1);
        y.turn(1, 0, 0);
        due("agreed(0) of two, one turned", y.agreed(0), 2);
        refused(of(TOWN), "agreed(2)", o -> o.agreed(2), -2);
        refused(of(TOWN), "agreed(-1)", o -> o.agreed(-1), -2);
    }

    private static void hours() {
        OnlyStrangersHear x = of(TOWN);
        int said = 0;
        for (int hour : new int[] {4, 11, 5, 12, 19, 13, 23, 6, 0}) {
            said |= 1 << hour;
        }
        due("hours(0)", x.hours(0), said);
        due("hours(1)", x.hours(1), 0);
        x.days(20);
        due("hours(0) then", x.hours(0), 1 << 4);
        due("hours(1) then", x.hours(1), 6);
        due("hours(0) by the first", of("b091;pp000;").hours(0), 1 << 9);
        refused(of(TOWN), "hours(2)", o -> o.hours(2), -2);
        refused(of(TOWN), "hours(-1)", o -> o.hours(-1), -2);
    }

    private static void bedsFor() {
        due("bedsFor, now", of("b091;pp008;").bedsFor(0), 1);
        due("bedsFor, he always has one", of("b091;pp008;").bedsFor(1), -9);
        due("bedsFor, one stays a stranger", of("b091;pp008;pp008;").bedsFor(40), 1);
        due("bedsFor, one sleeps out and forgets", of("b091;pp008;pp020;").bedsFor(12), 1);
        due("bedsFor, not yet", of("b091;pp008;pp020;").bedsFor(11), -9);
        due("bedsFor no bells", of("pp008;").bedsFor(40), 1);
        due("bedsFor nobody", of("b091;").bedsFor(0), -9);
        refused(of(TOWN), "bedsFor(-1)", o -> o.bedsFor(-1), -4);
        refused(of(TOWN), "bedsFor(41)", o -> o.bedsFor(41), -6);
    }

    private static void next() {
        OnlyStrangersHear x = of("b001;b002;b009;");
        int[][] due = {{1, 2, 9}, {1, 1, 8}, {1, 2, 7}};
        for (int day = 0; day < 3; day++) {
            for (int b = 0; b < 3; b++) {
                due("next(" + b + ") on " + day, x.next(b), due[day][b]);
            }
            x.days(1);
        }
        refused(of("b001;b002;b009;"), "next(3)", o -> o.next(3), -1);
        refused(of("b001;b002;b009;"), "next(-1)", o -> o.next(-1), -1);
    }

    private static void together() {
        OnlyStrangersHear x = of(TOWN);
        due("together()", x.together(), 6);
        x.days(5);
        due("together() on 5", x.together(), 1);
        x.days(1);
        due("together() on 6", x.together(), 6);
        OnlyStrangersHear y = of("b007;b008;b009;" + "d60;".repeat(6) + "d44;");
        due("together() on 404", y.together(), -9);
        y.days(1);
        due("together() on 405", y.together(), 99);
        due("together() of none", new OnlyStrangersHear().together(), -9);
    }

    private static void cost() {
        due("cost, he hears more", of("b095;pp502;").cost(0, 9, 0), -3);
        due("cost, an old one", of("b041;po099;").cost(0, 5, 0), 4);
        due("cost, one night", of("b041;po099;").cost(0, 1, 0), 0);
        due("cost, nine nights", of("b041;po099;").cost(0, 9, 0), 8);
        due("cost, a bell he never hears", of("b041;b051;po099;").cost(0, 9, 1), 0);
        due("cost, of 20 days alone", of("b091;pd000;").cost(0, 9, 0), 5);
        refusedCost(of(TOWN), "cost(6, 0, 0)", o -> o.cost(6, 0, 0), -1);
        refusedCost(of(TOWN), "cost(0, 0, 3)", o -> o.cost(0, 0, 3), -1);
        refusedCost(of(TOWN), "cost(0, 0, 0)", o -> o.cost(0, 0, 0), -4);
        refusedCost(of(TOWN), "cost(0, 10, 0)", o -> o.cost(0, 10, 0), -6);
    }

    private static void two() {
        due("two, none has better", of("b091;pp000;pp000;").two(0, 1, 3), 0);
        due("two, the other lies", of("b201;pp000;pp000;").two(0, 1, 3), 1);
        due("two, the same the other way round", of("b201;pp000;pp000;").two(1, 0, 3), 1);
        due("two, a lie of 5 past midnight", of("b191;pp000;pp000;").two(0, 1, 3), 1);
        due("two, a lie of 5 before midnight", of("b181;pp000;pp000;").two(0, 1, 3), 0);
        due("two, both lies needed to do harm", of("b201;pp000;pp000;pl300;pl300;pl400;").two(3, 4, 2), 0);
        due("two, the first parts from his like", of("b091;pd000;pp020;pd000;pp000;").two(0, 1, 3), 10);
        due("two, both lie", of("b131;pd107;pc007;pd905;pw403;").two(0, 1, 2), 11);
        due("two, one always has better", of("b141;pd000;pd000;pp000;").two(0, 1, 1), -9);
        due("two, no more days than they hear", of("b201;pp008;pp008;").two(0, 1, 20), 0);
        refused(of(TOWN), "two(0, 0, 0)", o -> o.two(0, 0, 0), -1);
        refused(of(TOWN), "two(6, 0, 0)", o -> o.two(6, 0, 0), -1);
        refused(of(TOWN), "two(0, 6, 0)", o -> o.two(0, 6, 0), -1);
        refused(of(TOWN), "two(0, 1, 0)", o -> o.two(0, 1, 0), -4);
        refused(of(TOWN), "two(0, 1, 21)", o -> o.two(0, 1, 21), -6);
    }

    // ---- promises 31 to 40: odds, rows, lots, the image ----

    private static void fog() {
        OnlyStrangersHear x = of(FOGGY);
        long[][] due = {{0, 2, 1, 1}, {1, 2, 1, 1}, {2, 2, 3, 4}, {3, 3, 7, 27}, {3, 4, 5, 32}, {7, 20, 67, 640000000}};
        for (long[] one : due) {
            int n = (int) one[0];
            int t = (int) one[1];
            due("fog(0, " + n + ", " + t + ", 0)", x.fog(0, n, t, 0), one[2]);
            due("fog(0, " + n + ", " + t + ", 1)", x.fog(0, n, t, 1), one[3]);
        }
        due("fog of nobody, above", of("b091;").fog(0, 7, 20, 0), 0);
        due("fog of nobody, below", of("b091;").fog(0, 7, 20, 1), 1);
        due("fog, one away for a night, above", of("b091;pp000;g01;").fog(0, 2, 3, 0), 8);
        due("fog, one away for a night, below", of("b091;pp000;g01;").fog(0, 2, 3, 1), 9);
        refusedLong(of(FOGGY), "fog(2, -1, 1, 2)", o -> o.fog(2, -1, 1, 2), -1);
        refusedLong(of(FOGGY), "fog(0, -1, 21, 2)", o -> o.fog(0, -1, 21, 2), -4);
        refusedLong(of(FOGGY), "fog(0, 8, 1, 2)", o -> o.fog(0, 8, 1, 2), -4);
        refusedLong(of(FOGGY), "fog(0, 8, 2, 2)", o -> o.fog(0, 8, 2, 2), -6);
        refusedLong(of(FOGGY), "fog(0, 0, 21, 2)", o -> o.fog(0, 0, 21, 2), -6);
        refusedLong(of(FOGGY), "fog(0, 0, 2, 2)", o -> o.fog(0, 0, 2, 2), -2);
        refusedLong(of(FOGGY), "fog(0, 0, 2, -1)", o -> o.fog(0, 0, 2, -1), -2);
    }

    private static void mean() {
        OnlyStrangersHear x = of(TOWN);
        due("mean(0)", x.mean(0), 139);
        due("mean(1)", x.mean(1), 6);
        due("mean(0) cut", of("pp004;pp002;pp000;pp000;").mean(0), 3);
        due("mean(1) cut", of("pp004;pp002;pp000;pp000;").mean(1), 2);
        due("mean(0) of one", of("pp007;").mean(0), 7);
        due("mean(1) of one", of("pp007;").mean(1), 1);
        due("mean(0) of none slept", of("pp000;pp000;").mean(0), 0);
        due("mean(1) of none slept", of("pp000;pp000;").mean(1), 1);
        due("mean(0) of nobody", new OnlyStrangersHear().mean(0), 0);
        due("mean(1) of nobody", new OnlyStrangersHear().mean(1), 1);
        refusedLong(of(TOWN), "mean(2)", o -> o.mean(2), -2);
        refusedLong(of(TOWN), "mean(-1)", o -> o.mean(-1), -2);
    }

    private static void what(String town, int kinds, int figures, int... row) {
        OnlyStrangersHear x = of(town);
        fill(x, row);
        due("whatIs(0, 0, 0) of " + town, x.whatIs(0, 0, 0), kinds);
        due("whatIs(0, 0, 1) of " + town, x.whatIs(0, 0, 1), figures);
        due("the row stays", x.count(6), row.length);
        due("he stays what he is", x.person(0, 0) * 10 + x.person(0, 1), "pcwdlo".indexOf(town.charAt(6)) * 10 + town.charAt(7) - '0');
    }

    private static void whatIs() {
        what("b091;pp300;", 63, 1023);
        what("b091;pp300;", 5, 1023, 9);
        what("b091;pw309;", 4, 1022, 9);
        what("b091;pw309;", 4, 8, 9, 9, 9, 99);
        what("b091;pl300;", 16, 8, 12);
        what("b091;pp000;", 21, 1023, 9);
        what("b091;pl100;", 24, 2, 10);
        what("b091;pc000;", 34, 1023, 99);
        what("b041;pc000;", 2, 1023, 99);
        what("b041;po020;", 32, 1023, 4);
        what("b231;pd300;", 8, 1023, 0);
        what("b091;pp300;", 0, 0, 24);
        what("b091;pp300;", 0, 0, 98);
        what("b091;pp300;g01;", 5, 1023, 99, 9);
        what("b099;pp300;", 5, 1023, 9, 9);
        what("b091;pp300;", 1, 1023, 9, 9, 9, 9, 9, 9, 9, 9, 9, 99);
        what("b091;pw702;", 4, 0b1110000000, times(16 - 2, 9));
        refused(of(TOWN), "whatIs(6, 0, 2)", o -> o.whatIs(6, 0, 2), -1);
        refused(of(TOWN), "whatIs(0, 3, 2)", o -> o.whatIs(0, 3, 2), -1);
        refused(of(TOWN), "whatIs(0, 0, 2)", o -> o.whatIs(0, 0, 2), -2);
        refused(of(TOWN), "whatIs(0, 0, -1)", o -> o.whatIs(0, 0, -1), -2);
    }

    private static void row() {
        OnlyStrangersHear x = new OnlyStrangersHear();
        refused(x, "row(-1)", o -> o.row(-1), -4);
        refused(x, "row(100)", o -> o.row(100), -6);
        for (int i = 1; i <= 16; i++) {
            due("row " + i, x.row(i % 2 * 99), i);
        }
        due("count(6)", x.count(6), 16);
        refused(x, "row 17", o -> o.row(0), -6);
        refused(x, "row(-1) full", o -> o.row(-1), -4);
    }

    private static void judged(int want, int... row) {
        OnlyStrangersHear x = of(TOWN);
        fill(x, row);
        due("judge() of " + Arrays.toString(row), x.judge(), want);
        due("count(6) behind judge()", x.count(6), 0);
        due("judge() again", x.judge(), -9);
        due("day as it was", x.count(2), 0);
    }

    private static void judge() {
        judged(-9);
        judged(-9, 5, 5, 4, 4, 2);
        judged(2, 5, 5, 5);
        judged(0, 4, 5, 4);
        judged(4, 5, 5, 4, 4, 3, 9);
        judged(-9, 5, 5, 4, 4, 2, 2, 1, 1, 1, 1, 1, 1, 1, 1, 1, 1);
        judged(15, 5, 5, 4, 4, 2, 2, 1, 1, 1, 1, 1, 1, 1, 1, 1, 0);
    }

    private static void clear() {
        OnlyStrangersHear x = new OnlyStrangersHear();
        x.row(5);
        x.row(6);
        due("clear()", x.clear(), 2);
        due("count(6)", x.count(6), 0);
        due("clear() again", x.clear(), 0);
        due("row behind clear()", x.row(7), 1);
    }

    private static void lots() {
        OnlyStrangersHear x = of("b091;pp050;");
        due("lots(1, 0, 1)", x.lots(1, 0, 1), 13);
        due("lots(1, 0, 0)", x.lots(1, 0, 0), 0);
        due("lots(3, 0, 1)", x.lots(3, 0, 1), 13 + 27 + 16);
        due("slept as it was", x.person(0, 2), 50);
        due("two draws a town", of("b091;pp050;pc000;").lots(1, 0, 1), 13 + 27);
        due("one hears in each town", of("b041;po000;").lots(20, -1, 0), 20);
        due("a dane hears who slept under 24", of("b091;pd800;").lots(3, 0, 0), 3);
        due("a wanderer hears who slept 13 or 16, not 27", of("b091;pw900;").lots(3, 0, 0), 2);
        due("away as it is", of("b091;pp000;g03;").lots(1, 0, 1), 7);
        due("lots of nobody", new OnlyStrangersHear().lots(20, 5, 1), 0);
        refused(of("b091;pp050;"), "lots(0, 0, 2)", o -> o.lots(0, 0, 2), -4);
        refused(of("b091;pp050;"), "lots(21, 0, 2)", o -> o.lots(21, 0, 2), -6);
        refused(of("b091;pp050;"), "lots(20, 0, 2)", o -> o.lots(20, 0, 2), -2);
        refused(of("b091;pp050;"), "lots(1, 0, -1)", o -> o.lots(1, 0, -1), -2);
    }

    private static void imageAndOn() {
        OnlyStrangersHear x = of(TOWN);
        refused(of(TOWN), "on() without an image", OnlyStrangersHear::on, -3);
        x.days(2);
        x.goes(0, 4);
        x.beds(5);
        due("image()", x.image(), 2);
        long[] then = seen(x);
        tell(x, "b111;pp123;");
        x.days(7);
        x.goes(1, 9);
        x.sleeps(2, 1);
        x.beds(1);
        x.turn(3, 1, 1);
        due("on()", x.on(), 2);
        due("all is as then", Arrays.equals(then, seen(x)) ? 1 : 0, 1);
        x.days(3);
        x.row(8);
        x.letter('b');
        x.bell(9, 9);
        due("on() again", x.on(), 2);
        due("the row stays", x.count(6), 1);
        due("letters stay", x.count(7), 1);
        due("refusals stay", x.count(11), 1);
        due("no image was refused", x.count(13), 0);
        x.days(10);
        due("image() anew", x.image(), 12);
        x.days(1);
        due("on() from the new one", x.on(), 12);
        due("a fault leaves the image", tell(x, "x"), -1001);
        due("on() behind a fault", x.on(), 12);
    }

    private static void count() {
        OnlyStrangersHear x = of(TOWN);
        int[] counts = {3, 6, 0, 8, 5, 139, 0, 0};
        for (int what = 0; what < counts.length; what++) {
            due("count(" + what + ")", x.count(what), counts[what]);
        }
        for (int what : new int[] {-1, 8, 9, 10, 17, 100, Integer.MIN_VALUE, Integer.MAX_VALUE}) {
            due("count(" + what + ")", x.count(what), -9);
        }
        x.bell(9, 0);
        x.cost(9, 9, 9);
        x.fog(9, 9, 9, 9);
        x.mean(9);
        x.right(9);
        x.on();
        x.beds(0);
        x.beds(9);
        x.days(99);
        x.row(100);
        x.fewest(99);
        int[] refused = {3, 2, 1, 1, 0, 4};
        for (int i = 0; i < 6; i++) {
            due("count(" + (11 + i) + ")", x.count(11 + i), refused[i]);
        }
    }

    private static void thoughtChangesNothing() {
        OnlyStrangersHear x = of(TOWN + "g02;g31;e3;");
        long[] before = seen(x);
        for (int b = 0; b < 3; b++) {
            x.bellThen(b, 50, 1);
            x.rings(b, 40, 0);
            x.rings(b, 40, 1);
            x.send(b, 5, 40);
            x.ask(b);
            x.next(b);
            x.fog(b, 7, 3, 0);
        }
        for (int p = 0; p < 6; p++) {
            x.personThen(p, 50, 0);
            x.deaf(p);
            x.nightsFor(p, 40);
            x.cost(p, 9, 0);
            x.two(p, (p + 1) % 6, 20);
            x.whatIs(p, 0, 0);
            x.whatIs(p, 0, 1);
        }
        x.lost(0);
        x.fewest(40);
        x.leave();
        x.right(2);
        x.clash(0);
        x.agreed(1);
        x.hours(0);
        x.bedsFor(40);
        x.together();
        x.judge();
        x.lots(20, 3, 1);
        x.image();
        due("all is as before", Arrays.equals(before, seen(x)) ? 1 : 0, 1);
        due("none was refused", Arrays.equals(new int[6], refusals(x)) ? 1 : 0, 1);
    }

    private static void beyondDay999() {
        OnlyStrangersHear x = of("b047;b045;po000;" + "d60;".repeat(16) + "d39;");
        due("day", x.count(2), 999);
        due("next beyond", x.next(0), 2);
        due("next beyond, 1000", x.next(1), 1);
        due("together beyond: 1015", x.together(), 16);
        due("rings beyond", x.rings(0, 40, 0), 6);
        due("bellThen beyond", x.bellThen(1, 1, 1), 4);
        due("personThen beyond", x.personThen(0, 99, 0), 99);
        due("day stays", x.count(2), 999);
    }

    private static void readme() {
        OnlyStrangersHear x = of("b041;b122;pp005;pl703;po099;");
        due("README: bell(0, 2)", x.bell(0, 2), 7);
        due("README: says(1, 0)", x.says(1, 0), 11);
        due("README: deaf(0)", x.deaf(0), 4);
    }
}
