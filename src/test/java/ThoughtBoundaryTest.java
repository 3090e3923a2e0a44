import java.util.List;

/** The boundary cases that promises 12 to 30 name: what comes, whom to send or ask, who agrees, how long to wait. */
public final class ThoughtBoundaryTest extends Boundaries {
    public static void main(String[] args) {
        personThen();
        bellThen();
        deaf();
        lost();
        rings();
        send();
        nightsFor();
        fewest();
        ask();
        leave();
        right();
        clash();
        agreed();
        hours();
        bedsFor();
        next();
        together();
        cost();
        two();
        end("Promise 12: personThen", "Promise 13: bellThen", "Promise 14: deaf", "Promise 15: lost",
                "Promise 16: rings", "Promise 17: send", "Promise 18: nightsFor", "Promise 19: fewest",
                "Promise 20: ask", "Promise 21: leave", "Promise 22: right", "Promise 23: clash",
                "Promise 24: agreed", "Promise 25: hours", "Promise 26: bedsFor", "Promise 27: next",
                "Promise 28: together", "Promise 29: cost", "Promise 30: two");
    }

    /** A call that thinks leaves all as it is. */
    private static void onlyThinks(String what, Call call) {
        OnlyStrangersHear x = prepared(FULL + "g05;e3;");
        List<Long> before = seen(x);
        call.of(x);
        same(what + " leaves all as it is", seen(x), before);
        due(what + " leaves the image as it is", x.on() * 10 + x.count(3), 6);
    }

    private static void personThen() {
        under("Promise 12: personThen");
        edge("SLEPT (what 0), AWAY (1).", () -> {
            OnlyStrangersHear x = at(FULL + "g79;");
            due("SLEPT, 0 on", x.personThen(7, 0, 0), 8);
            due("AWAY, 0 on", x.personThen(7, 0, 1), 9);
            due("SLEPT, 9 on", x.personThen(7, 9, 0), 0);
            due("AWAY, 9 on", x.personThen(7, 9, 1), 0);
            due("SLEPT, 99 on", x.personThen(7, 99, 0), 90);
            due("AWAY, 99 on", x.personThen(7, 99, 1), 0);
            due("SLEPT of one long here", x.personThen(2, 99, 0), 99);
            onlyThinks("personThen", y -> y.personThen(7, 99, 0));
        });
        edge("-1;", () -> {
            people("personThen", (x, v) -> x.personThen(v, 1, 0));
            refused(FULL, "personThen(8, -1, 2)", x -> x.personThen(8, -1, 2), -1);
            refused(FULL, "personThen(8, 100, 0)", x -> x.personThen(8, 100, 0), -1);
            refused(FULL, "personThen(8, 0, 2)", x -> x.personThen(8, 0, 2), -1);
        });
        edge("-4;", () -> {
            least(0, "personThen", (x, v) -> x.personThen(7, v, 0));
            refused(FULL, "personThen(7, -1, 2)", x -> x.personThen(7, -1, 2), -4);
        });
        edge("-6 99;", () -> {
            greatest(99, "personThen", (x, v) -> x.personThen(7, v, 0));
            refused(FULL, "personThen(7, 100, 2)", x -> x.personThen(7, 100, 2), -6);
        });
        edge("-2.", () -> choices(2, "personThen", (x, v) -> x.personThen(7, 99, v)));
    }

    private static void bellThen() {
        under("Promise 13: bellThen");
        edge("Who HEARS it (what 0, bits), what is SAID (1; -9).", () -> {
            OnlyStrangersHear x = at("b009;" + "pp000;".repeat(8));
            due("who, 0 on", x.bellThen(0, 0, 0), 255);
            due("SAID, 0 on", x.bellThen(0, 0, 1), 0);
            due("who, 8 on", x.bellThen(0, 8, 0), 255);
            due("SAID, 8 on, it RINGS not", x.bellThen(0, 8, 1), -9);
            due("who, 9 on", x.bellThen(0, 9, 0), 0);
            due("SAID, 9 on, nobody HEARS it", x.bellThen(0, 9, 1), -9);
            OnlyStrangersHear old = at("b049;po000;");
            due("who, 99 on", old.bellThen(0, 99, 0), 1);
            due("SAID, 99 on", old.bellThen(0, 99, 1), 4);
            onlyThinks("bellThen", y -> y.bellThen(0, 99, 1));
        });
        edge("-1;", () -> {
            bells("bellThen", (x, v) -> x.bellThen(v, 1, 0));
            refused(FULL, "bellThen(6, -1, 2)", x -> x.bellThen(6, -1, 2), -1);
            refused(FULL, "bellThen(6, 100, 0)", x -> x.bellThen(6, 100, 0), -1);
            refused(FULL, "bellThen(6, 0, 2)", x -> x.bellThen(6, 0, 2), -1);
        });
        edge("-4;", () -> {
            least(0, "bellThen", (x, v) -> x.bellThen(5, v, 0));
            refused(FULL, "bellThen(5, -1, 2)", x -> x.bellThen(5, -1, 2), -4);
        });
        edge("-6 99;", () -> {
            greatest(99, "bellThen", (x, v) -> x.bellThen(5, v, 0));
            refused(FULL, "bellThen(5, 100, 2)", x -> x.bellThen(5, 100, 2), -6);
        });
        edge("-2.", () -> choices(2, "bellThen", (x, v) -> x.bellThen(5, 99, v)));
    }

    private static void deaf() {
        under("Promise 14: deaf");
        edge("DEAF; -9.", () -> {
            OnlyStrangersHear x = at(FULL);
            int[] deaf = {4, 6, -9, 2, 4, 0, 9, 1};
            for (int p = 0; p < 8; p++) {
                due("deaf(" + p + ")", x.deaf(p), deaf[p]);
            }
            onlyThinks("deaf", y -> y.deaf(2));
        });
        edge("-1.", () -> people("deaf", (x, v) -> x.deaf(v)));
    }

    private static void lost() {
        under("Promise 15: lost");
        edge("LOST: which (what 0; -9), when (1; -9).", () -> {
            OnlyStrangersHear x = at(FULL);
            due("which", x.lost(0), 1);
            due("when", x.lost(1), 9);
            due("which, never", at("b041;po000;").lost(0), -9);
            due("when, never", at("b041;po000;").lost(1), -9);
            due("which, none is heard now", at("b041;po000;g01;").lost(0), -9);
            due("when, none is heard now", at("b041;po000;g01;").lost(1), -9);
            onlyThinks("lost", y -> y.lost(0));
        });
        edge("-2.", () -> choices(2, "lost", (x, v) -> x.lost(v)));
    }

    private static void rings() {
        under("Promise 16: rings");
        edge("TRUE (what 0), UNHEARD (1).", () -> {
            OnlyStrangersHear x = at("b098;pp000;");
            due("TRUE, 1", x.rings(0, 1, 0), 0);
            due("TRUE, 7", x.rings(0, 7, 0), 0);
            due("TRUE, 8", x.rings(0, 8, 0), 1);
            due("TRUE, 40", x.rings(0, 40, 0), 1);
            due("UNHEARD, 8", x.rings(0, 8, 1), 0);
            due("UNHEARD, 15", x.rings(0, 15, 1), 0);
            due("UNHEARD, 16", x.rings(0, 16, 1), 1);
            due("UNHEARD, 40", x.rings(0, 40, 1), 4);
            onlyThinks("rings", y -> y.rings(0, 40, 0));
            onlyThinks("rings", y -> y.rings(0, 40, 1));
        });
        edge("-1;", () -> {
            bells("rings", (x, v) -> x.rings(v, 1, 0));
            refused(FULL, "rings(6, 0, 2)", x -> x.rings(6, 0, 2), -1);
            refused(FULL, "rings(6, 41, 0)", x -> x.rings(6, 41, 0), -1);
            refused(FULL, "rings(6, 1, 2)", x -> x.rings(6, 1, 2), -1);
        });
        edge("-4 below 1;", () -> {
            least(1, "rings", (x, v) -> x.rings(5, v, 0));
            refused(FULL, "rings(5, 0, 2)", x -> x.rings(5, 0, 2), -4);
        });
        edge("-6 40;", () -> {
            greatest(40, "rings", (x, v) -> x.rings(5, v, 0));
            refused(FULL, "rings(5, 41, 2)", x -> x.rings(5, 41, 2), -6);
        });
        edge("-2.", () -> choices(2, "rings", (x, v) -> x.rings(5, 40, v)));
    }

    private static void send() {
        under("Promise 17: send");
        edge("SEND; -9.", () -> {
            due("the first", at("b091;pp008;").send(0, 1, 1), 0);
            due("the last of eight, of the last of six",
                    at("b041;b041;b041;b041;b041;b091;" + "pc000;".repeat(7) + "pp008;").send(5, 1, 1), 7);
            due("no one", at("b091;pp007;").send(0, 1, 1), -9);
            due("nobody there", at("b091;").send(0, 1, 1), -9);
            onlyThinks("send", y -> y.send(1, 9, 40));
        });
        edge("-1;", () -> {
            bells("send", (x, v) -> x.send(v, 1, 1));
            refused(FULL, "send(6, 0, 0)", x -> x.send(6, 0, 0), -1);
            refused(FULL, "send(6, 10, 41)", x -> x.send(6, 10, 41), -1);
        });
        edge("-4 below 1 either;", () -> {
            least(1, "send for nights", (x, v) -> x.send(5, v, 40));
            least(1, "send by DAYS", (x, v) -> x.send(5, 9, v));
            refused(FULL, "send(5, 0, 41)", x -> x.send(5, 0, 41), -4);
            refused(FULL, "send(5, 10, 0)", x -> x.send(5, 10, 0), -4);
        });
        edge("-6 (9; 40).", () -> {
            greatest(9, "send for nights", (x, v) -> x.send(5, v, 1));
            greatest(40, "send by DAYS", (x, v) -> x.send(5, 1, v));
            refused(FULL, "send(5, 10, 41)", x -> x.send(5, 10, 41), -6);
        });
    }

    private static void nightsFor() {
        under("Promise 18: nightsFor");
        edge("NIGHTS; -9.", () -> {
            due("the fewest", at("b091;pp008;").nightsFor(0, 1), 1);
            due("the most, of the last", at("b091;" + "pc099;".repeat(7) + "pp026;").nightsFor(7, 9), 9);
            due("none", at("b091;pp007;").nightsFor(0, 1), -9);
            due("no BELLS", at("pp008;").nightsFor(0, 1), -9);
            onlyThinks("nightsFor", y -> y.nightsFor(7, 40));
        });
        edge("-1;", () -> {
            people("nightsFor", (x, v) -> x.nightsFor(v, 1));
            refused(FULL, "nightsFor(8, 0)", x -> x.nightsFor(8, 0), -1);
            refused(FULL, "nightsFor(8, 41)", x -> x.nightsFor(8, 41), -1);
        });
        edge("-4 below 1;", () -> least(1, "nightsFor", (x, v) -> x.nightsFor(7, v)));
        edge("-6 40.", () -> greatest(40, "nightsFor", (x, v) -> x.nightsFor(7, v)));
    }

    private static void fewest() {
        under("Promise 19: fewest");
        edge("FEWEST (bits; -9).", () -> {
            due("nobody is needed", at("b091;pp008;").fewest(0), 0);
            due("the first", at("b091;pp009;").fewest(5), 1);
            due("the last of eight", at("b091;" + "pc000;".repeat(7) + "pp018;").fewest(5), 128);
            due("none will do", at("b091;pp019;").fewest(5), -9);
            onlyThinks("fewest", y -> y.fewest(40));
        });
        edge("-4;", () -> least(0, "fewest", (x, v) -> x.fewest(v)));
        edge("-6 40.", () -> greatest(40, "fewest", (x, v) -> x.fewest(v)));
    }

    private static void ask() {
        under("Promise 20: ask");
        edge("ASK; -9.", () -> {
            OnlyStrangersHear x = at(FULL);
            due("the OLD one of HOUR 4", x.ask(0), 2);
            due("of the last BELL", x.ask(5), 6);
            due("the last of eight", at("b091;" + "pd000;".repeat(7) + "pp008;").ask(0), 7);
            due("none SAYS it rightly", at("b091;" + "pd000;".repeat(8)).ask(0), -9);
            onlyThinks("ask", y -> y.ask(0));
        });
        edge("-1.", () -> bells("ask", (x, v) -> x.ask(v)));
    }

    private static void leave() {
        under("Promise 21: leave");
        edge("LEAVE; -9.", () -> {
            due("a new object", new OnlyStrangersHear().leave(), -9);
            due("the first", at("b231;pd000;pp000;").leave(), 0);
            due("the last of eight", at("b231;" + "pc000;".repeat(6) + "pp000;pd000;").leave(), 7);
            due("all are right", at(FULL).leave(), -9);
            onlyThinks("leave", OnlyStrangersHear::leave);
        });
    }

    private static void right() {
        under("Promise 22: right");
        edge("RIGHT (what 0), WRONG (1), LAST (2; -9).", () -> {
            OnlyStrangersHear x = at(FULL);
            due("RIGHT, all six", x.right(0), 6);
            due("WRONG, none", x.right(1), 0);
            due("LAST, never", x.right(2), 2);
            OnlyStrangersHear none = new OnlyStrangersHear();
            due("RIGHT of none", none.right(0), 0);
            due("WRONG of none", none.right(1), 0);
            due("LAST of none", none.right(2), -9);
            OnlyStrangersHear danes = at("b001;b011;b021;b031;b041;b051;" + "pd000;".repeat(8));
            due("RIGHT, none", danes.right(0), 0);
            due("WRONG, all six", danes.right(1), 6);
            due("LAST of all alike", danes.right(2), 0);
            onlyThinks("right", y -> y.right(2));
        });
        edge("-2.", () -> choices(3, "right", (x, v) -> x.right(v)));
    }

    private static void clash() {
        under("Promise 23: clash");
        edge("CLASH: how many (what 0), the first (1; -9).", () -> {
            OnlyStrangersHear all = at("b091;pl000;pl100;pl200;pl300;pl400;pl500;pl600;pl700;");
            due("how many, all", all.clash(0), 28);
            due("the first, of all", all.clash(1), 1);
            OnlyStrangersHear last = at("b091;" + "pc000;".repeat(6) + "pp000;pd000;");
            due("how many, the last two", last.clash(0), 1);
            due("the first, the last two", last.clash(1), 67);
            due("how many, none", at("b091;pp000;").clash(0), 0);
            due("the first, none", at("b091;pp000;").clash(1), -9);
            onlyThinks("clash", y -> y.clash(1));
        });
        edge("-2.", () -> choices(2, "clash", (x, v) -> x.clash(v)));
    }

    private static void agreed() {
        under("Promise 24: agreed");
        edge("AGREED: how many (what 0), which (1, bits).", () -> {
            OnlyStrangersHear all = at("b091;" + "pp000;".repeat(8));
            due("how many, all", all.agreed(0), 8);
            due("which, all", all.agreed(1), 255);
            OnlyStrangersHear last = at("b091;" + "pc000;".repeat(7) + "pp000;");
            due("how many, the last", last.agreed(0), 1);
            due("which, the last", last.agreed(1), 128);
            last.turn(0, 4, 9);
            due("how many, the first unlike the last", last.agreed(0), 1);
            due("which, the first unlike the last", last.agreed(1), 1);
            last.turn(0, 4, 0);
            due("how many, the first like the last", last.agreed(0), 2);
            due("which, the first like the last", last.agreed(1), 129);
            due("how many, none", new OnlyStrangersHear().agreed(0), 0);
            due("which, none", new OnlyStrangersHear().agreed(1), 0);
            onlyThinks("agreed", y -> y.agreed(1));
        });
        edge("-2.", () -> choices(2, "agreed", (x, v) -> x.agreed(v)));
    }

    private static void hours() {
        under("Promise 25: hours");
        edge("HOURS (what 0, bits), SILENT (1, bits).", () -> {
            OnlyStrangersHear ends = at("b001;b231;pp000;");
            due("HOURS, the first and the last", ends.hours(0), 1 | 1 << 23);
            due("SILENT, none", ends.hours(1), 0);
            OnlyStrangersHear silent = at("b001;b011;b021;b031;b041;b051;pp009;");
            due("HOURS, none", silent.hours(0), 0);
            due("SILENT, all six", silent.hours(1), 63);
            due("HOURS of a new object", new OnlyStrangersHear().hours(0), 0);
            due("SILENT of a new object", new OnlyStrangersHear().hours(1), 0);
        });
        edge("-2.", () -> choices(2, "hours", (x, v) -> x.hours(v)));
    }

    private static void bedsFor() {
        under("Promise 26: bedsFor");
        edge("BED; -9.", () -> {
            due("the fewest", at("b091;pp008;").bedsFor(0), 1);
            due("none will do", at("b091;pp008;").bedsFor(1), -9);
            due("40", at("b091;pp000;pp048;").bedsFor(40), 1);
            onlyThinks("bedsFor", y -> y.bedsFor(40));
        });
        edge("-4;", () -> least(0, "bedsFor", (x, v) -> x.bedsFor(v)));
        edge("-6 40.", () -> greatest(40, "bedsFor", (x, v) -> x.bedsFor(v)));
    }

    private static void next() {
        under("Promise 27: next");
        edge("NEXT.", () -> {
            for (int every = 1; every <= 9; every++) {
                OnlyStrangersHear x = at("b04" + every + ";");
                due("EVERY " + every + ", DAY 0", x.next(0), every);
                x.days(every);
                due("EVERY " + every + ", a DAY it RINGS", x.next(0), every);
                x.days(1);
                due("EVERY " + every + ", a DAY later", x.next(0), every == 1 ? 1 : every - 1);
            }
            due("DAY 999, EVERY 9", at("b049;", passing(999)).next(0), 9);
        });
        edge("-1.", () -> bells("next", (x, v) -> x.next(v)));
    }

    private static void together() {
        under("Promise 28: together");
        edge("TOGETHER; -9.", () -> {
            due("a new object", new OnlyStrangersHear().together(), -9);
            due("1", at("b041;".repeat(6)).together(), 1);
            due("99", at("b045;b047;b049;", passing(216)).together(), 99);
            due("100", at("b045;b047;b049;", passing(215)).together(), -9);
            due("DAY 999", at("b045;", passing(999)).together(), 1);
        });
    }

    private static void cost() {
        under("Promise 29: cost");
        edge("COST.", () -> {
            due("fewer", at("b041;po099;").cost(0, 9, 0), 8);
            due("as many", at("b041;po099;").cost(0, 1, 0), 0);
            due("more", at("b091;pp009;").cost(0, 1, 0), -2);
            due("more, he is AWAY", at("b041;po000;g09;").cost(0, 1, 0), -8);
            due("the last of the last", at("b051;b051;b051;b051;b051;b041;" + "pc000;".repeat(7) + "po099;").cost(7, 9, 5), 8);
            onlyThinks("cost", y -> y.cost(7, 9, 5));
        });
        edge("Refused as told: -1 either;", () -> {
            people("cost", (x, v) -> x.cost(v, 1, 0), COST);
            bells("cost of a BELL", (x, v) -> x.cost(0, 1, v), COST);
            refused(FULL, "cost(8, 0, 0)", x -> x.cost(8, 0, 0), -1, COST);
            refused(FULL, "cost(0, 10, 6)", x -> x.cost(0, 10, 6), -1, COST);
            refused(FULL, "cost(6, 1, 7)", x -> x.cost(6, 1, 7), -1, COST);
        });
        edge("-4 below 1;", () -> least(1, "cost", (x, v) -> x.cost(7, v, 5), COST));
        edge("-6 9.", () -> greatest(9, "cost", (x, v) -> x.cost(7, v, 5), COST));
    }

    private static void two() {
        under("Promise 30: two");
        edge("TWO; -9.", () -> {
            due("neither", at("b091;pp000;pp000;").two(0, 1, 1), 0);
            due("the other", at("b201;pp000;pp000;").two(0, 1, 1), 1);
            due("the first", at("b091;pd000;pp020;pd000;pp000;").two(0, 1, 1), 10);
            due("both", at("b131;pd107;pc007;pd905;pw403;").two(0, 1, 2), 11);
            due("no pair", at("b141;pd000;pd000;pp000;").two(0, 1, 1), -9);
            onlyThinks("two", y -> y.two(0, 7, 20));
        });
        edge("-1 either (one twice, too);", () -> {
            numbers(FULL, 8, "two, the first", (x, v) -> x.two(v, v == 3 ? 4 : 3, 1), PLAIN);
            numbers(FULL, 8, "two, the other", (x, v) -> x.two(v == 3 ? 4 : 3, v, 1), PLAIN);
            for (int p = 0; p <= 7; p++) {
                int one = p;
                refused(FULL, "two(" + p + ", " + p + ", 1)", x -> x.two(one, one, 1), -1);
            }
            refused("b041;", "two(0, 1, 1) of nobody", x -> x.two(0, 1, 1), -1);
            refused("b041;pp000;", "two(0, 1, 1) of one", x -> x.two(0, 1, 1), -1);
            refused("b041;pp000;", "two(1, 0, 1) of one", x -> x.two(1, 0, 1), -1);
            refused(FULL, "two(8, 0, 0)", x -> x.two(8, 0, 0), -1);
            refused(FULL, "two(0, 8, 21)", x -> x.two(0, 8, 21), -1);
            refused(FULL, "two(7, 7, 0)", x -> x.two(7, 7, 0), -1);
            refused(FULL, "two(7, 7, 21)", x -> x.two(7, 7, 21), -1);
        });
        edge("-4 below 1;", () -> least(1, "two", (x, v) -> x.two(0, 7, v)));
        edge("-6 20.", () -> greatest(20, "two", (x, v) -> x.two(0, 7, v)));
    }
}
