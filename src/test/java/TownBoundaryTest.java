import java.util.List;

/** The boundary cases that promises 1 to 11 name: a new object, its town, and what changes it. */
public final class TownBoundaryTest extends Boundaries {
    public static void main(String[] args) {
        newObject();
        letter();
        town();
        bell();
        person();
        says();
        goes();
        sleeps();
        beds();
        turn();
        days();
        end("Promise 1: A new object", "Promise 2: letter", "Promise 3: town", "Promise 4: bell", "Promise 5: person",
                "Promise 6: says", "Promise 7: goes", "Promise 8: sleeps", "Promise 9: beds", "Promise 10: turn",
                "Promise 11: days");
    }

    private static void newObject() {
        under("Promise 1: A new object");
        edge("No BELLS, nobody, DAY 0, 8 BEDS.", () -> {
            OnlyStrangersHear x = new OnlyStrangersHear();
            due("BELLS", x.count(0), 0);
            due("no BELL 0", x.bell(0, 0), -1);
            due("PEOPLE", x.count(1), 0);
            due("nobody is 0", x.person(0, 0), -1);
            due("DAY", x.count(2), 0);
            due("BEDS", x.count(3), 8);
            due("who HEAR", x.count(4), 0);
            due("SLEPT", x.count(5), 0);
            due("in the ROW", x.count(6), 0);
            due("letters", x.count(7), 0);
            due("no image", x.on(), -3);
        });
        edge("No BELLS, nobody, DAY 0, 8 BEDS.", () -> {
            OnlyStrangersHear first = at(FULL, "e1;d60;");
            first.image();
            first.row(1);
            first.letter('b');
            first.letter(-1);
            OnlyStrangersHear x = new OnlyStrangersHear();
            same("a new one beside an old one", seen(x), List.of(0L, 0L, 0L, 8L, 0L, 0L, 0L, 0L));
            same("its REFUSALS", refusals(x), List.of(0L, 0L, 0L, 0L, 0L, 0L));
            due("it has no image", x.on(), -3);
        });
    }

    private static void letter() {
        under("Promise 2: letter");
        edge("A letter (0 .. 255) comes: how many there are.", () -> {
            OnlyStrangersHear x = new OnlyStrangersHear();
            due("the least", x.letter(0), 1);
            due("the greatest", x.letter(255), 2);
            for (int i = 3; i <= 96; i++) {
                due("letter " + i, x.letter(i), i);
            }
            due("count(7)", x.count(7), 96);
        });
        edge("-4;", () -> {
            least(0, "letter", (x, v) -> x.letter(v));
            refused(TownBoundaryTest::withFullLetters, "letter(-1), no room", x -> x.letter(-1), -4, PLAIN);
        });
        edge("-6 (255; 96, too).", () -> {
            greatest(255, "letter", (x, v) -> x.letter(v));
            refused(TownBoundaryTest::withFullLetters, "letter(0), no room", x -> x.letter(0), -6, PLAIN);
            refused(TownBoundaryTest::withFullLetters, "letter(255), no room", x -> x.letter(255), -6, PLAIN);
            refused(TownBoundaryTest::withFullLetters, "letter(256), no room", x -> x.letter(256), -6, PLAIN);
            OnlyStrangersHear x = withFullLetters();
            x.town();
            due("there is room behind town()", x.letter('e'), 1);
        });
    }

    private static OnlyStrangersHear withFullLetters() {
        OnlyStrangersHear x = at("b041;po000;");
        x.image();
        x.row(1);
        for (char c : "d01;".repeat(24).toCharArray()) {
            x.letter(c);
        }
        return x;
    }

    private static void town() {
        under("Promise 3: town");
        edge("The letters become a TOWN, and are no more: how many STATEMENTS;", () -> {
            OnlyStrangersHear x = new OnlyStrangersHear();
            due("one", tell(x, "e1;"), 1);
            due("letters", x.count(7), 0);
            due("32 of 96 letters", tell(x, "e8;".repeat(32)), 32);
            due("letters", x.count(7), 0);
            due("no letters are no TOWN", x.town(), -1000);
            due("a letter more is the first", x.letter('e'), 1);
        });
        edge("the FAULT (nothing is counted).", () -> {
            OnlyStrangersHear x = new OnlyStrangersHear();
            due("none", x.town(), -1000);
            due("kind 1", tell(x, "e1;x"), -1003);
            due("letters", x.count(7), 0);
            due("kind 2", tell(x, "e1;e0;"), -2003);
            due("letters", x.count(7), 0);
            same("nothing is counted", refusals(x), List.of(0L, 0L, 0L, 0L, 0L, 0L));
            due("BEDS as they were", x.count(3), 8);
        });
    }

    private static void bell() {
        under("Promise 4: bell");
        edge("Of a BELL: 0 HOUR, 1 EVERY, 2 who HEARS it now (bits),", () -> {
            OnlyStrangersHear x = at("b001;b019;b029;b039;b069;b239;");
            due("the least HOUR", x.bell(0, 0), 0);
            due("the greatest", x.bell(5, 0), 23);
            due("the least EVERY", x.bell(0, 1), 1);
            due("the greatest", x.bell(5, 1), 9);
            due("nobody", x.bell(0, 2), 0);
            due("the first of eight", at("b091;pp008;" + "pp009;".repeat(7)).bell(0, 2), 1);
            due("the last of eight", at("b091;" + "pp009;".repeat(7) + "pp008;").bell(0, 2), 128);
            due("all eight, on a DAY it RINGS not", at("b099;" + "pp000;".repeat(8) + "d01;").bell(0, 2), 255);
        });
        edge("3 what would be SAID, were it to RING now (-9).", () -> {
            due("on a DAY it RINGS not", at("b239;pp000;d01;").bell(0, 3), 23);
            due("HOUR 0", at("b001;pp008;").bell(0, 3), 0);
            due("behind 23", at("b231;pd000;").bell(0, 3), 0);
            due("nobody", at("b001;").bell(0, 3), -9);
            due("nobody HEARS it", at("b001;pp009;").bell(0, 3), -9);
        });
        edge("-1;", () -> {
            bells("bell", (x, v) -> x.bell(v, 0));
            refused(FULL, "bell(6, 4)", x -> x.bell(6, 4), -1);
        });
        edge("-2.", () -> choices(4, "bell", (x, v) -> x.bell(5, v)));
    }

    private static void person() {
        under("Promise 5: person");
        edge("Of one: 0 KIND (0 p, 1 c, 2 w, 3 d, 4 l, 5 o),", () -> {
            OnlyStrangersHear x = at("pp000;pc000;pw000;pd000;pl000;po000;");
            for (int kind = 0; kind <= 5; kind++) {
                due("KIND of " + kind, x.person(kind, 0), kind);
            }
        });
        edge("1 FIGURE, 2 SLEPT, 3 AWAY,", () -> {
            OnlyStrangersHear x = at("pp000;pl999;g19;");
            due("the least FIGURE", x.person(0, 1), 0);
            due("the greatest", x.person(1, 1), 9);
            due("the least SLEPT", x.person(0, 2), 0);
            due("the greatest", x.person(1, 2), 99);
            due("he is here", x.person(0, 3), 0);
            due("the most AWAY", x.person(1, 3), 9);
        });
        edge("4 for how many nights he HEARS.", () -> {
            OnlyStrangersHear x = at("pp900;pc900;pw000;pw900;pd000;pd900;pl900;po900;");
            int[] nights = {9, 0, 9, 18, 18, 36, 9, 0};
            for (int p = 0; p < 8; p++) {
                due("nights of " + p, x.person(p, 4), nights[p]);
            }
            due("AWAY and long here, too", at("pw999;g09;").person(0, 4), 18);
        });
        edge("-1;", () -> {
            people("person", (x, v) -> x.person(v, 0));
            refused(FULL, "person(8, 5)", x -> x.person(8, 5), -1);
        });
        edge("-2.", () -> choices(5, "person", (x, v) -> x.person(7, v)));
    }

    private static void says() {
        under("Promise 6: says");
        edge("The HOUR he SAYS of it now;", () -> {
            due("HOUR 0", at("b001;pp008;").says(0, 0), 0);
            due("HOUR 23, on a DAY it RINGS not", at("b239;pp000;d01;").says(0, 0), 23);
            due("behind 23 comes 0", at("b231;pd017;").says(0, 0), 0);
            due("9 behind 23", at("b231;pl908;").says(0, 0), 8);
            OnlyStrangersHear full = at(FULL);
            due("the last of the last", full.says(7, 5), 11);
        });
        edge("-9 he HEARS it not.", () -> {
            due("he has SLEPT too long", at("b001;pp009;").says(0, 0), -9);
            due("he is AWAY", at("b001;pp000;g01;").says(0, 0), -9);
            due("an OLD one of HOUR 3", at("b031;po000;").says(0, 0), -9);
        });
        edge("-1 either.", () -> {
            people("says", (x, v) -> x.says(v, 0));
            bells("says of a BELL", (x, v) -> x.says(0, v));
            refused(FULL, "says(8, 6)", x -> x.says(8, 6), -1);
            refused(FULL, "says(6, 7)", x -> x.says(6, 7), -1);
        });
    }

    private static void goes() {
        under("Promise 7: goes");
        edge("He goes AWAY (0 comes back): AWAY as it was.", () -> {
            OnlyStrangersHear x = at(FULL);
            due("9, he was here", x.goes(7, 9), 0);
            due("AWAY", x.person(7, 3), 9);
            due("SLEPT stays", x.person(7, 2), 8);
            due("1, he was AWAY for 9", x.goes(7, 1), 9);
            due("0, he was AWAY for 1", x.goes(7, 0), 1);
            due("he is back", x.person(7, 3), 0);
            due("0, he was here", x.goes(7, 0), 0);
            due("others are here", x.person(6, 3) + x.person(0, 3), 0);
        });
        edge("-1;", () -> {
            people("goes", (x, v) -> x.goes(v, 1));
            refused(FULL, "goes(8, -1)", x -> x.goes(8, -1), -1);
            refused(FULL, "goes(-1, 10)", x -> x.goes(-1, 10), -1);
        });
        edge("-4;", () -> least(0, "goes", (x, v) -> x.goes(7, v)));
        edge("-6 9.", () -> greatest(9, "goes", (x, v) -> x.goes(7, v)));
    }

    private static void sleeps() {
        under("Promise 8: sleeps");
        edge("SLEPT becomes v: what it was.", () -> {
            OnlyStrangersHear x = at(FULL);
            due("99", x.sleeps(7, 99), 8);
            due("it is", x.person(7, 2), 99);
            due("0", x.sleeps(7, 0), 99);
            due("it is", x.person(7, 2), 0);
            due("0 again", x.sleeps(7, 0), 0);
            due("of the others", x.count(5), 139);
        });
        edge("-1;", () -> {
            people("sleeps", (x, v) -> x.sleeps(v, 1));
            refused(FULL, "sleeps(8, -1)", x -> x.sleeps(8, -1), -1);
            refused(FULL, "sleeps(-1, 100)", x -> x.sleeps(-1, 100), -1);
        });
        edge("-4;", () -> least(0, "sleeps", (x, v) -> x.sleeps(7, v)));
        edge("-6 99.", () -> greatest(99, "sleeps", (x, v) -> x.sleeps(7, v)));
    }

    private static void beds() {
        under("Promise 9: beds");
        edge("BEDS become v: what they were.", () -> {
            OnlyStrangersHear x = new OnlyStrangersHear();
            due("1", x.beds(1), 8);
            due("8", x.beds(8), 1);
            due("8 again", x.beds(8), 8);
            due("BEDS", x.count(3), 8);
        });
        edge("-4 below 1;", () -> least(1, "beds", (x, v) -> x.beds(v)));
        edge("-6 8.", () -> greatest(8, "beds", (x, v) -> x.beds(v)));
    }

    private static void turn() {
        under("Promise 10: turn");
        edge("KIND, FIGURE become others: 10 times the KIND and the FIGURE it had.", () -> {
            OnlyStrangersHear x = at(FULL);
            due("the greatest", x.turn(7, 5, 9), 0);
            due("the KIND is", x.person(7, 0), 5);
            due("the FIGURE is", x.person(7, 1), 9);
            due("the least", x.turn(7, 0, 0), 59);
            due("the KIND is", x.person(7, 0), 0);
            due("the FIGURE is", x.person(7, 1), 0);
            due("as it was", x.turn(7, 0, 0), 0);
            due("SLEPT stays", x.person(7, 2), 8);
            x.goes(7, 9);
            x.turn(7, 3, 5);
            due("AWAY stays", x.person(7, 3), 9);
        });
        edge("-1;", () -> {
            people("turn", (x, v) -> x.turn(v, 1, 1));
            refused(FULL, "turn(8, 6, -1)", x -> x.turn(8, 6, -1), -1);
            refused(FULL, "turn(8, 0, -1)", x -> x.turn(8, 0, -1), -1);
            refused(FULL, "turn(8, 0, 10)", x -> x.turn(8, 0, 10), -1);
        });
        edge("-2;", () -> {
            choices(6, "turn", (x, v) -> x.turn(7, v, 1));
            refused(FULL, "turn(7, 6, -1)", x -> x.turn(7, 6, -1), -2);
            refused(FULL, "turn(7, -1, 10)", x -> x.turn(7, -1, 10), -2);
        });
        edge("-4;", () -> least(0, "turn", (x, v) -> x.turn(7, 5, v)));
        edge("-6 9.", () -> greatest(9, "turn", (x, v) -> x.turn(7, 5, v)));
    }

    private static void days() {
        under("Promise 11: days");
        edge("n DAYS (1 .. 60) go by: how many HEAR some BELL.", () -> {
            OnlyStrangersHear x = at("b091;pp007;pp008;");
            due("1", x.days(1), 1);
            due("DAY", x.count(2), 1);
            due("60", x.days(60), 0);
            due("DAY", x.count(2), 61);
            due("SLEPT", x.person(0, 2), 68);
            due("eight, long here", at("b041;" + "po000;".repeat(8)).days(60), 8);
            due("of six BELLS each counts once", at("b001;b011;b021;b031;b041;b051;pp000;").days(1), 1);
            due("on a DAY it RINGS not", at("b099;pp000;").days(1), 1);
            due("nobody", at("b091;").days(1), 0);
            due("no BELLS", at("pp000;").days(1), 0);
        });
        edge("-4;", () -> least(1, "days", (x, v) -> x.days(v)));
        edge("-6 (60; DAY above 999).", () -> {
            greatest(60, "days", (x, v) -> x.days(v));
            OnlyStrangersHear x = at(passing(939));
            due("60 from 939", x.days(60), 0);
            due("DAY", x.count(2), 999);
            due("1 from 998", at(passing(998)).days(1), 0);
            refused(passing(940), "60 from 940", y -> y.days(60), -6);
            refused(passing(998), "2 from 998", y -> y.days(2), -6);
            refused(passing(999), "1 from 999", y -> y.days(1), -6);
            refused(passing(999), "0 from 999", y -> y.days(0), -4);
            refused(passing(999), "the greatest from 999", y -> y.days(GREATEST), -6);
        });
    }
}
