import java.util.List;

/** The boundary cases that promises 31 to 40 name: odds, the ROW, lots, the image, counts. */
public final class OddsBoundaryTest extends Boundaries {
    public static void main(String[] args) {
        fog();
        mean();
        whatIs();
        row();
        judge();
        clear();
        lots();
        image();
        on();
        count();
        end("Promise 31: fog", "Promise 32: mean", "Promise 33: whatIs", "Promise 34: row", "Promise 35: judge",
                "Promise 36: clear", "Promise 37: lots", "Promise 38: image", "Promise 39: on", "Promise 40: count");
    }

    private static void fog() {
        under("Promise 31: fog");
        edge("FOG, part 0 above, 1 below the line.", () -> {
            OnlyStrangersHear x = at("b091;pp008;");
            due("0, above", x.fog(0, 0, 2, 0), 1);
            due("0, below", x.fog(0, 0, 2, 1), 1);
            due("7, above", x.fog(0, 7, 20, 0), 1);
            due("7, below", x.fog(0, 7, 20, 1), 1280000000L);
            due("never, above", at("b091;").fog(0, 7, 20, 0), 0);
            due("never, below", at("b091;").fog(0, 7, 20, 1), 1);
            List<Long> before = seen(x);
            x.fog(0, 7, 2, 0);
            same("all is as it was", seen(x), before);
        });
        edge("Refused as told: -1;", () -> {
            bells("fog", (x, v) -> x.fog(v, 1, 2, 0), LONG);
            refused(FULL, "fog(6, -1, 1, 2)", x -> x.fog(6, -1, 1, 2), -1, LONG);
            refused(FULL, "fog(6, 8, 21, 0)", x -> x.fog(6, 8, 21, 0), -1, LONG);
            refused(FULL, "fog(6, 0, 2, 2)", x -> x.fog(6, 0, 2, 2), -1, LONG);
        });
        edge("-4 (n; t below 2);", () -> {
            least(0, "fog by DAYS", (x, v) -> x.fog(5, v, 20, 0), LONG);
            least(2, "fog by odds", (x, v) -> x.fog(5, 7, v, 0), LONG);
            refused(FULL, "fog(5, 0, 0, 0)", x -> x.fog(5, 0, 0, 0), -4, LONG);
            refused(FULL, "fog(5, -1, 21, 0)", x -> x.fog(5, -1, 21, 0), -4, LONG);
            refused(FULL, "fog(5, 8, 1, 0)", x -> x.fog(5, 8, 1, 0), -4, LONG);
            refused(FULL, "fog(5, -1, 2, 2)", x -> x.fog(5, -1, 2, 2), -4, LONG);
            refused(FULL, "fog(5, 0, 1, 2)", x -> x.fog(5, 0, 1, 2), -4, LONG);
        });
        edge("-6 (7; 20);", () -> {
            greatest(7, "fog by DAYS", (x, v) -> x.fog(5, v, 2, 0), LONG);
            greatest(20, "fog by odds", (x, v) -> x.fog(5, 0, v, 0), LONG);
            refused(FULL, "fog(5, 8, 2, 2)", x -> x.fog(5, 8, 2, 2), -6, LONG);
            refused(FULL, "fog(5, 0, 21, 2)", x -> x.fog(5, 0, 21, 2), -6, LONG);
        });
        edge("-2.", () -> choices(2, "fog", (x, v) -> x.fog(5, 7, 20, v), LONG));
    }

    private static void mean() {
        under("Promise 32: mean");
        edge("MEAN.", () -> {
            due("nobody, above", new OnlyStrangersHear().mean(0), 0);
            due("nobody, below", new OnlyStrangersHear().mean(1), 1);
            due("eight, above", at("pp099;".repeat(7) + "pp098;").mean(0), 791);
            due("eight, below", at("pp099;".repeat(7) + "pp098;").mean(1), 8);
            due("eight alike, above", at("pp099;".repeat(8)).mean(0), 99);
            due("eight alike, below", at("pp099;".repeat(8)).mean(1), 1);
        });
        edge("Refused as told: -2.", () -> choices(2, "mean", (x, v) -> x.mean(v), LONG));
    }

    private static void whatIs() {
        under("Promise 33: whatIs");
        edge("WHAT ONE IS by the ROW (it stays): KINDS (what 0, bits), FIGURES (1).", () -> {
            OnlyStrangersHear x = at("b041;b041;b041;b041;b041;b231;" + "pc000;".repeat(7) + "pl900;");
            due("an empty ROW, KINDS", x.whatIs(7, 5, 0), 63);
            due("an empty ROW, FIGURES", x.whatIs(7, 5, 1), 1023);
            fill(x, 8);
            due("the last of the last, KINDS", x.whatIs(7, 5, 0), 1 << 4);
            due("the last of the last, FIGURES", x.whatIs(7, 5, 1), 1 << 9);
            due("the ROW stays", x.count(6), 1);
            due("he stays what he is", x.turn(7, 4, 9), 49);
            fill(x, row(9, 8, 99, 99, 99, 99, 99, 99, 99));
            due("a full ROW, KINDS", x.whatIs(7, 5, 0), 1 << 4);
            due("a full ROW, FIGURES", x.whatIs(7, 5, 1), 1 << 9);
            due("a full ROW stays", x.count(6), 16);
            due("it is as it was: judged by its first number", x.judge(), 0);
        });
        edge("-1 either;", () -> {
            people("whatIs", (x, v) -> x.whatIs(v, 0, 0));
            bells("whatIs of a BELL", (x, v) -> x.whatIs(0, v, 0));
            refused(FULL, "whatIs(8, 0, 2)", x -> x.whatIs(8, 0, 2), -1);
            refused(FULL, "whatIs(0, 6, 2)", x -> x.whatIs(0, 6, 2), -1);
            refused(FULL, "whatIs(6, 7, 0)", x -> x.whatIs(6, 7, 0), -1);
        });
        edge("-2.", () -> choices(2, "whatIs", (x, v) -> x.whatIs(7, 5, v)));
    }

    private static OnlyStrangersHear withFullRow() {
        OnlyStrangersHear x = at("b041;po000;");
        x.image();
        for (int i = 0; i < 16; i++) {
            x.row(1);
        }
        return x;
    }

    private static void row() {
        under("Promise 34: row");
        edge("A number more of the ROW (0 .. 99): how many.", () -> {
            OnlyStrangersHear x = new OnlyStrangersHear();
            due("the least", x.row(0), 1);
            due("the greatest", x.row(99), 2);
            for (int i = 3; i <= 16; i++) {
                due("number " + i, x.row(50), i);
            }
            due("in the ROW", x.count(6), 16);
        });
        edge("-4;", () -> {
            least(0, "row", (x, v) -> x.row(v));
            refused(OddsBoundaryTest::withFullRow, "row(-1), no room", x -> x.row(-1), -4, PLAIN);
        });
        edge("-6 (99; 16, too).", () -> {
            greatest(99, "row", (x, v) -> x.row(v));
            refused(OddsBoundaryTest::withFullRow, "row(0), no room", x -> x.row(0), -6, PLAIN);
            refused(OddsBoundaryTest::withFullRow, "row(99), no room", x -> x.row(99), -6, PLAIN);
            refused(OddsBoundaryTest::withFullRow, "row(100), no room", x -> x.row(100), -6, PLAIN);
            OnlyStrangersHear x = withFullRow();
            x.clear();
            due("there is room behind clear()", x.row(0), 1);
        });
    }

    private static void judge() {
        under("Promise 35: judge");
        edge("JUDGED; -9 (the ROW has none then).", () -> {
            OnlyStrangersHear x = withFullRow();
            due("all 16 are so", x.judge(), -9);
            due("none then", x.count(6), 0);
            due("an empty ROW", x.judge(), -9);
            due("a number more is the first", x.row(0), 1);
            due("it is not so", x.judge(), 0);
            due("none then, too", x.count(6), 0);
            fill(x, row(15, 1, 2));
            due("the last of 16 is not so", x.judge(), 15);
            due("none then, too", x.count(6), 0);
            due("DAY is as it was", x.count(2), 0);
            due("an empty ROW of a new object", new OnlyStrangersHear().judge(), -9);
        });
    }

    private static void clear() {
        under("Promise 36: clear");
        edge("The ROW has none then: how many it had.", () -> {
            OnlyStrangersHear x = withFullRow();
            due("16", x.clear(), 16);
            due("none then", x.count(6), 0);
            due("0", x.clear(), 0);
            due("a number more is the first", x.row(0), 1);
            due("1", x.clear(), 1);
            due("0 of a new object", new OnlyStrangersHear().clear(), 0);
        });
    }

    private static void lots() {
        under("Promise 37: lots");
        edge("LOTS: who HEAR (what 0), SLEPT (1).", () -> {
            OnlyStrangersHear x = at("b041;" + "po099;".repeat(8));
            due("1, all HEAR", x.lots(1, LEAST, 0), 8);
            due("20, all HEAR", x.lots(20, GREATEST, 0), 160);
            // The first eight draws from 0 are 3, 17, 6, 19, 9, 10, 4, 7: in all 75.
            due("1, SLEPT", x.lots(1, 0, 1), 155);
            due("SLEPT is as it was", x.count(5), 792);
            due("DAY is as it was", x.count(2), 0);
            due("nobody HEARS", new OnlyStrangersHear().lots(20, 0, 0), 0);
            due("nobody has SLEPT", new OnlyStrangersHear().lots(20, 0, 1), 0);
            due("10 DAYS beyond 999", at("pp000;", passing(999)).lots(1, 0, 1), 13);
        });
        edge("-4;", () -> {
            least(1, "lots", (x, v) -> x.lots(v, 0, 0));
            refused(FULL, "lots(0, 0, 2)", x -> x.lots(0, 0, 2), -4);
        });
        edge("-6 20;", () -> {
            greatest(20, "lots", (x, v) -> x.lots(v, 0, 0));
            refused(FULL, "lots(21, 0, 2)", x -> x.lots(21, 0, 2), -6);
        });
        edge("-2.", () -> choices(2, "lots", (x, v) -> x.lots(20, 0, v)));
    }

    private static void image() {
        under("Promise 38: image");
        edge("THE IMAGE is taken: DAY.", () -> {
            due("of a new object", new OnlyStrangersHear().image(), 0);
            OnlyStrangersHear x = at(FULL, passing(999));
            due("DAY 999", x.image(), 999);
            OnlyStrangersHear y = at("e3;");
            y.image();
            tell(y, "d05;e4;");
            due("taken anew", y.image(), 5);
            y.beds(5);
            due("the new one is ON", y.on(), 5);
            due("BEDS as with the new one", y.count(3), 4);
        });
    }

    private static void on() {
        under("Promise 39: on");
        edge("ON from it: DAY.", () -> {
            OnlyStrangersHear x = new OnlyStrangersHear();
            x.image();
            tell(x, passing(999));
            due("0 from 999", x.on(), 0);
            due("DAY", x.count(2), 0);
            due("a second time", x.on(), 0);
            tell(x, passing(999));
            x.image();
            due("999", x.on(), 999);
            due("DAY", x.count(2), 999);
        });
        edge("-3 there is none.", () -> {
            refused(OnlyStrangersHear::new, "on() of a new object", OnlyStrangersHear::on, -3, PLAIN);
            refused(() -> at(FULL), "on() of a full town", OnlyStrangersHear::on, -3, PLAIN);
            taken("", "on() from an image of nothing", OnlyStrangersHear::on);
        });
    }

    private static void count() {
        under("Promise 40: count");
        edge("0 BELLS, 1 PEOPLE, 2 DAY, 3 BEDS, 4 how many HEAR some BELL, 5 all SLEPT, 6 in the ROW, 7 letters,",
                () -> {
            same("of a new object", seen(new OnlyStrangersHear()), List.of(0L, 0L, 0L, 8L, 0L, 0L, 0L, 0L));
            OnlyStrangersHear x = at("b041;".repeat(6) + "po099;".repeat(8), passing(999), "e1;s099;s199;s299;s399;s499;"
                    + "s599;s699;s799;");
            for (int i = 0; i < 16; i++) {
                x.row(0);
            }
            for (int i = 0; i < 96; i++) {
                x.letter(0);
            }
            int[] greatest = {6, 8, 999, 1, 8, 792, 16, 96};
            for (int what = 0; what <= 7; what++) {
                due("count(" + what + ") as great as can be", x.count(what), greatest[what]);
            }
        });
        edge("11 .. 16 REFUSALS -1 .. -6.", () -> {
            OnlyStrangersHear x = new OnlyStrangersHear();
            for (int i = 1; i <= 3; i++) {
                x.bell(0, 0);
                x.beds(0);
                x.beds(9);
                x.lost(2);
                x.on();
                x.cost(0, 0, 0);
                x.mean(2);
                same("REFUSALS " + i, refusals(x), List.of(2L * i, 2L * i, (long) i, (long) i, 0L, (long) i));
            }
        });
        edge("-9 for another what.", () -> {
            OnlyStrangersHear x = at(FULL);
            for (int what : new int[] {-1, 8, 9, 10, 17, LEAST, GREATEST}) {
                due("count(" + what + ")", x.count(what), -9);
            }
            due("count(7) is one", x.count(7), 0);
            due("count(11) is one", x.count(11), 0);
            due("count(15) is one", x.count(15), 0);
            due("count(16) is one", x.count(16), 0);
            same("none was refused", refusals(x), List.of(0L, 0L, 0L, 0L, 0L, 0L));
        });
    }
}
