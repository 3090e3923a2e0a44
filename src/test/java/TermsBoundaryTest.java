import java.util.List;

/** The boundary cases that the document's terms name: part I, part II, THE IMAGE and REFUSALS. */
public final class TermsBoundaryTest extends Boundaries {
    public static void main(String[] args) {
        use();
        under("Terms");
        numbersOfATown();
        lettersOfATown();
        faults();
        kinds();
        daysAndWords();
        thought();
        sending();
        asking();
        agreeing();
        waiting();
        twoAndOdds();
        rowsAndLots();
        imageAndRefusals();
        end("Terms");
    }

    private static void use() {
        under("What it is");
        edge("An object is used for at most 512 calls after it has been made", () -> {
            OnlyStrangersHear x = new OnlyStrangersHear();
            for (int i = 1; i <= 511; i++) {
                x.letter(-1);
            }
            due("count(14), the 512th call", x.count(14), 511);
        });
    }

    // ---- I ----

    private static void numbersOfATown() {
        edge("BELLS 0 .. as they come (6 at most)", () -> {
            OnlyStrangersHear x = at("b001;b052;b103;b144;b195;");
            due("the sixth", tell(x, "b236;"), 1);
            int[] hours = {0, 5, 10, 14, 19, 23};
            for (int b = 0; b < 6; b++) {
                due("HOUR of " + b, x.bell(b, 0), hours[b]);
                due("EVERY of " + b, x.bell(b, 1), b + 1);
            }
            due("a seventh", tell(x, "b001;"), -2000);
            due("BELLS", x.count(0), 6);
            due("six at once", told("b001;".repeat(6)), 6);
            due("seven at once", told("b001;".repeat(7)), -2030);
        });
        edge("an HOUR (0 .. 23)", () -> {
            due("the least", at("b001;").bell(0, 0), 0);
            due("the greatest", at("b231;").bell(0, 0), 23);
            due("one more", told("b241;"), -2000);
            due("the greatest two digits", told("b991;"), -2000);
        });
        edge("EVERY so many DAYS (1 .. 9).", () -> {
            due("the least", at("b041;").bell(0, 1), 1);
            due("the greatest", at("b049;").bell(0, 1), 9);
            due("one less", told("b040;"), -2000);
        });
        edge("PEOPLE 0 .. as they come (8 at most): KIND,", () -> {
            OnlyStrangersHear x = at("pp010;pc211;pw312;pd413;pl514;po615;pp716;");
            due("the eighth", tell(x, "pc917;"), 1);
            int[] figures = {0, 2, 3, 4, 5, 6, 7, 9};
            for (int p = 0; p < 8; p++) {
                due("KIND of " + p, x.person(p, 0), p % 6);
                due("FIGURE of " + p, x.person(p, 1), figures[p]);
                due("SLEPT of " + p, x.person(p, 2), 10 + p);
            }
            due("a ninth", tell(x, "pp000;"), -2000);
            due("PEOPLE", x.count(1), 8);
            due("eight at once", told("pp000;".repeat(8)), 8);
            due("nine at once", told("pp000;".repeat(9)), -2048);
        });
        edge("FIGURE (0 .. 9)", () -> {
            OnlyStrangersHear x = at("pl000;pl900;");
            due("the least", x.person(0, 1), 0);
            due("the greatest", x.person(1, 1), 9);
            due("one less", x.turn(0, 4, -1), -4);
            due("one more", x.turn(1, 4, 10), -6);
            due("the least still", x.person(0, 1), 0);
            due("the greatest still", x.person(1, 1), 9);
        });
        edge("SLEPT (nights here, 0 .. 99)", () -> {
            OnlyStrangersHear x = at("pp000;pp099;");
            due("the least", x.person(0, 2), 0);
            due("the greatest", x.person(1, 2), 99);
            due("one less", x.sleeps(0, -1), -4);
            due("one more", x.sleeps(1, 100), -6);
            due("the least still", x.person(0, 2), 0);
            due("the greatest still", x.person(1, 2), 99);
        });
        edge("AWAY (how many nights yet, 0 .. 9; 0 he is here, at first).", () -> {
            OnlyStrangersHear x = at("b091;pp000;");
            due("at first", x.person(0, 3), 0);
            due("he is here and HEARS", x.bell(0, 2), 1);
            x.goes(0, 1);
            due("with 1 he is not here", x.bell(0, 2), 0);
            x.goes(0, 9);
            due("the greatest", x.person(0, 3), 9);
            due("one less than the least", x.goes(0, -1), -4);
            due("one more than the greatest", x.goes(0, 10), -6);
            due("the greatest still", x.person(0, 3), 9);
            due("one more of PEOPLE is here", tell(x, "pp000;") * 10 + x.person(1, 3), 10);
        });
        edge("AWAY (how many nights yet, 0 .. 9; 0 he is here, at first).", () -> {
            OnlyStrangersHear x = new OnlyStrangersHear();
            x.image();
            tell(x, "pp000;g09;");
            x.on();
            tell(x, "pp000;");
            due("at first, though one with his number was AWAY", x.person(0, 3), 0);
        });
        edge("DAY (0 .. 999; 0 at first).", () -> {
            due("at first", new OnlyStrangersHear().count(2), 0);
            OnlyStrangersHear x = at(passing(998));
            due("998", x.count(2), 998);
            due("one more is told", tell(x, "d01;"), 1);
            due("999", x.count(2), 999);
            due("one more is told", tell(x, "d01;"), -2000);
            due("one more goes by", x.days(1), -6);
            due("999 still", x.count(2), 999);
        });
        edge("BEDS (1 .. 8; 8 at first).", () -> {
            OnlyStrangersHear x = at("pp000;".repeat(8));
            due("at first", x.count(3), 8);
            x.days(1);
            due("all eight have slept", x.count(5), 8);
            due("the least", x.beds(1), 8);
            x.days(1);
            due("SLEPT of the first", x.person(0, 2), 2);
            due("SLEPT of all", x.count(5), 2);
            due("one less", x.beds(0), -4);
            due("one more", x.beds(9), -6);
            due("the least still", x.beds(8), 1);
            due("the greatest", x.count(3), 8);
        });
    }

    private static void lettersOfATown() {
        edge("A TOWN is told in letters, one by one (96 at most):", () -> {
            OnlyStrangersHear x = new OnlyStrangersHear();
            String text = "d01;".repeat(24);
            for (int i = 0; i < 96; i++) {
                due("letter " + (i + 1), x.letter(text.charAt(i)), i + 1);
            }
            due("letter 97", x.letter('d'), -6);
            due("the 96 are a TOWN", x.town(), 24);
            due("DAY", x.count(2), 24);
        });
        edge("STATEMENTS, each with \";\" behind:", () -> {
            due("none behind the only one", told("e1"), -1002);
            due("none behind the first", told("e1e2;"), -1002);
            due("none behind the last", told("e1;e2"), -1005);
            due("another sign behind", told("e1:"), -1002);
            due("two behind", told("e1;;"), -1003);
            due("one before", told(";e1;"), -1000);
            due("one behind each", told("e1;e2;"), 2);
        });
        edge("\"b\" an HOUR (2 digits), EVERY (a digit): a BELL more;", () -> {
            due("BELLS", at("b041;").count(0), 1);
            digits("b", "041");
        });
        edge("\"p\" a letter of a KIND, FIGURE (a digit), SLEPT (2 digits): one of PEOPLE more;", () -> {
            due("PEOPLE", at("pp041;").count(1), 1);
            digits("pp", "041");
            for (int c = 0; c <= 255; c++) {
                int kind = "pcwdlo".indexOf(c);
                OnlyStrangersHear x = new OnlyStrangersHear();
                due("KIND " + c, tell(x, "p" + (char) c + "000;"), kind >= 0 ? 1 : -1001);
                due("KIND " + c + " as a number", x.person(0, 0), Math.max(-1, kind));
            }
        });
        edge("\"g\" one (a digit), nights (a digit): he goes AWAY for these (0: he comes back);", () -> {
            OnlyStrangersHear x = at("pp000;");
            tell(x, "g01;");
            due("the fewest", x.person(0, 3), 1);
            tell(x, "g09;");
            due("the most", x.person(0, 3), 9);
            tell(x, "g00;");
            due("he comes back", x.person(0, 3), 0);
            OnlyStrangersHear eight = at("pp000;".repeat(8));
            due("the last of eight", tell(eight, "g75;"), 1);
            due("he is AWAY", eight.person(7, 3), 5);
            due("none behind him", tell(eight, "g85;"), -2000);
            digits("g", "01");
        });
        edge("\"s\" one (a digit), SLEPT (2 digits);", () -> {
            OnlyStrangersHear x = at("pp050;".repeat(8));
            tell(x, "s000;");
            due("the least", x.person(0, 2), 0);
            tell(x, "s799;");
            due("the greatest, of the last", x.person(7, 2), 99);
            due("none behind him", tell(x, "s800;"), -2000);
            digits("s", "000");
        });
        edge("\"e\" BEDS (a digit);", () -> {
            due("the least", at("e1;").count(3), 1);
            due("the greatest", at("e1;e8;").count(3), 8);
            due("one less", told("e0;"), -2000);
            due("one more", told("e9;"), -2000);
            digits("e", "1");
        });
        edge("\"d\" DAYS (2 digits, 1 .. 60): they go by.", () -> {
            due("the least", at("d01;").count(2), 1);
            due("the greatest", at("d60;").count(2), 60);
            due("one less", told("d00;"), -2000);
            due("one more", told("d61;"), -2000);
            due("the greatest two digits", told("d99;"), -2000);
            due("they go by as far as told", at("pp000;d01;g05;d02;").person(0, 3), 3);
            digits("d", "01");
        });
        edge("At least one STATEMENT.", () -> {
            due("none", told(""), -1000);
            due("one", told("e1;"), 1);
        });
    }

    /** A statement of this many digits, one less, one more, and signs just beside the digits. */
    private static void digits(String head, String digits) {
        int last = head.length() + digits.length();
        for (int i = 0; i < digits.length(); i++) {
            int place = head.length() + i;
            String before = head + digits.substring(0, i);
            due(before + " without more", told(before), -1000 - place);
            due(before + " with ; too soon", told(before + ";"), -1000 - place);
            due(before + " with the sign below 0", told(before + "/"), -1000 - place);
            due(before + " with the sign above 9", told(before + ":"), -1000 - place);
            due(before + " with a digit's sign 128 on", told(before + (char) ('1' + 128)), -1000 - place);
        }
        due(head + digits + " without ;", told(head + digits), -1000 - last);
        due(head + digits + " with a digit too many", told(head + digits + "0;"), -1000 - last);
        for (char c = '0'; c <= '9'; c++) {
            String text = head + ("" + c).repeat(digits.length()) + ";";
            due(text + " behind one of PEOPLE", tell(at("pp000;"), text), isRight(head, c) ? 1 : -2000);
        }
    }

    /** Whether a statement with this digit throughout is as it must be, if there is one of PEOPLE. */
    private static boolean isRight(String head, char c) {
        switch (head) {
            case "b":
                return c == '1' || c == '2';
            case "pp":
                return true;
            case "g":
            case "s":
                return c == '0';
            case "e":
                return c >= '1' && c <= '8';
            default:
                return c >= '1' && c <= '5';
        }
    }

    private static void faults() {
        edge("FAULT: kind 1 the place of the first letter with which no TOWN can go on", () -> {
            for (int c = 0; c <= 255; c++) {
                boolean canBegin = "bpgsed".indexOf(c) >= 0;
                due("the letter " + c + " alone", told("" + (char) c), canBegin ? -1001 : -1000);
                due("the letter " + c + " behind a STATEMENT", told("e1;" + (char) c), canBegin ? -1004 : -1003);
            }
            due("the first of two", told("e1;bxx1;"), -1004);
            due("at the last place", told("d01;".repeat(23) + "d01x"), -1095);
            due("a letter that could come elsewhere", told("e1;1"), -1003);
        });
        edge("(the end, if something lacks): -1000 less the place;", () -> {
            due("no letters", told(""), -1000);
            due("one", told("b"), -1001);
            due("all but one", told("b041"), -1004);
            due("96 letters", told("d01;".repeat(23) + "b041"), -1096);
        });
        edge("else kind 2 the place of the first letter of the first STATEMENT that is not as it must be", () -> {
            due("the first STATEMENT", told("e0;"), -2000);
            due("the first of two", told("e1;e9;e0;"), -2003);
            due("the last, as late as can be", told("d01;".repeat(23) + "e0;"), -2092);
            due("kind 1 though it stands behind", told("e0;e1;x"), -1006);
            due("kind 1 though it is the end", told("e0;e1"), -1005);
        });
        edge("(a number out of range,", () -> {
            due("HOUR", told("e1;b241;"), -2003);
            due("EVERY", told("e1;b230;"), -2003);
            due("BEDS below", told("e1;e0;"), -2003);
            due("BEDS above", told("e1;e9;"), -2003);
            due("DAYS below", told("e1;d00;"), -2003);
            due("DAYS above", told("e1;d61;"), -2003);
        });
        edge("nobody so far with that number,", () -> {
            due("goes, nobody at all", told("g00;"), -2000);
            due("goes, though he comes later", told("g00;pp000;"), -2000);
            due("goes, he came before", told("pp000;g00;"), 2);
            due("goes, the one behind him", told("pp000;g10;"), -2006);
            due("sleeps, nobody at all", told("s000;"), -2000);
            due("sleeps, though he comes later", told("s000;pp000;"), -2000);
            due("sleeps, he came before", told("pp000;s000;"), 2);
            due("sleeps, the one behind him", told("pp000;s100;"), -2006);
            due("the ninth of eight goes", tell(at("pp000;".repeat(8)), "e1;g80;"), -2003);
            due("the tenth of eight sleeps", tell(at("pp000;".repeat(8)), "e1;s900;"), -2003);
        });
        edge("DAY above 999,", () -> {
            due("999 at once", told(passing(999)), 17);
            due("1000 at once", told("d60;".repeat(16) + "d40;"), -2064);
            OnlyStrangersHear x = at(passing(939));
            due("61 on in two", tell(x, "d01;d60;"), -2004);
            due("60 on", tell(x, "d60;"), 1);
            due("1 on from 999", tell(x, "d01;"), -2000);
        });
        edge("no room for more): -2000 less the place.", () -> {
            due("a seventh BELL", tell(at("b001;".repeat(5)), "e1;b001;b001;"), -2008);
            due("a ninth of PEOPLE", tell(at("pp000;".repeat(7)), "e1;pp000;pp000;"), -2009);
        });
        edge("Without FAULT all of it comes, with one nothing.", () -> {
            OnlyStrangersHear x = at("b041;pp005;");
            List<Long> before = seen(x);
            due("a FAULT of kind 2 in the last", tell(x, "b122;pl700;g13;s099;e2;d05;g80;"), -2027);
            same("nothing came", seen(x), before);
            due("a FAULT of kind 1 in the last", tell(x, "b122;pl700;g13;s099;e2;d05;x"), -1027);
            same("nothing came", seen(x), before);
            due("no FAULT", tell(x, "b122;pl700;g13;s009;e2;d02;"), 6);
            due("BELLS", x.count(0), 2);
            due("PEOPLE", x.count(1), 2);
            due("AWAY", x.person(1, 3), 1);
            due("SLEPT", x.person(0, 2), 11);
            due("BEDS", x.count(3), 2);
            due("DAY", x.count(2), 2);
        });
    }

    private static void nights(String kindAndFigure, int nights) {
        OnlyStrangersHear x = at("b091;p" + kindAndFigure + "00;");
        due(kindAndFigure + ": nights", x.person(0, 4), nights);
        if (nights > 0) {
            x.sleeps(0, nights - 1);
            due(kindAndFigure + ": HEARS with one less", x.bell(0, 2), 1);
        }
        x.sleeps(0, nights);
        due(kindAndFigure + ": HEARS with as many", x.bell(0, 2), 0);
        x.sleeps(0, 99);
        due(kindAndFigure + ": HEARS with 99", x.bell(0, 2), 0);
    }

    private static void kinds() {
        plain("KINDS of PEOPLE,");
        edge("for how many nights of SLEPT he HEARS (if SLEPT is less; none AWAY hears),", () -> {
            due("one less", at("b091;pp008;").bell(0, 2), 1);
            due("as many", at("b091;pp009;").bell(0, 2), 0);
            String all = "b041;pp000;pc000;pw900;pd900;pl000;po000;";
            due("all are here", at(all).bell(0, 2), 0b111101);
            due("all are AWAY for a night", at(all + "g01;g11;g21;g31;g41;g51;").bell(0, 2), 0);
        });
        plain("which HOUR he SAYS of a BELL he HEARS:");
        edge("p PERSON: 9; the BELL's.", () -> {
            nights("p0", 9);
            nights("p9", 9);
            due("of HOUR 0", at("b001;pp900;").says(0, 0), 0);
            due("of HOUR 23", at("b231;pp900;").says(0, 0), 23);
        });
        edge("c CHILD under PERSON: 0; as a PERSON.", () -> {
            nights("c0", 0);
            nights("c9", 0);
            due("of HOUR 4, too", at("b041;pc000;").says(0, 0), -9);
        });
        edge("w WANDERER under PERSON: FIGURE more; as a PERSON.", () -> {
            nights("w0", 9);
            nights("w1", 10);
            nights("w9", 18);
            due("of HOUR 23", at("b231;pw900;").says(0, 0), 23);
        });
        edge("d DANE under WANDERER: twice; 1 later (behind 23 comes 0).", () -> {
            nights("d0", 18);
            nights("d1", 20);
            nights("d9", 36);
            due("of HOUR 0", at("b001;pd900;").says(0, 0), 1);
            due("of HOUR 22", at("b221;pd900;").says(0, 0), 23);
            due("of HOUR 23", at("b231;pd900;").says(0, 0), 0);
        });
        edge("l LIAR under PERSON: as a PERSON; FIGURE later.", () -> {
            nights("l0", 9);
            nights("l9", 9);
            due("0 later", at("b231;pl000;").says(0, 0), 23);
            due("1 later, behind 23", at("b231;pl100;").says(0, 0), 0);
            due("9 later, up to 23", at("b141;pl900;").says(0, 0), 23);
            due("9 later, behind 23", at("b151;pl900;").says(0, 0), 0);
            due("9 later, as far as can be", at("b231;pl900;").says(0, 0), 8);
        });
        edge("o OLD under CHILD: as a CHILD, but any BELL of HOUR 4, whatever he has SLEPT, as long as he is here; "
                + "as a PERSON.", () -> {
            nights("o0", 0);
            nights("o9", 0);
            OnlyStrangersHear x = at("b031;b041;b051;b049;po900;");
            for (int slept : new int[] {0, 1, 99}) {
                x.sleeps(0, slept);
                due("of HOUR 3, " + slept, x.says(0, 0), -9);
                due("of HOUR 4, " + slept, x.says(0, 1), 4);
                due("of HOUR 5, " + slept, x.says(0, 2), -9);
                due("of another of HOUR 4, " + slept, x.says(0, 3), 4);
            }
            x.goes(0, 1);
            due("of HOUR 4, AWAY", x.says(0, 1), -9);
            x.days(1);
            due("of HOUR 4, back", x.says(0, 1), 4);
        });
        plain("Where it is not told as above them.");
    }

    private static void daysAndWords() {
        edge("A BELL RINGS on DAYS that EVERY divides.", () -> {
            for (int every = 1; every <= 9; every++) {
                OnlyStrangersHear x = at("b04" + every + ";po000;");
                for (int day : new int[] {0, 1, every - 1, every, every + 1, 9 * every - 1, 9 * every}) {
                    due("EVERY " + every + ", DAY " + day, x.bellThen(0, day, 1), day % every == 0 ? 4 : -9);
                }
            }
            due("DAY 999, EVERY 9", at("b049;po000;", passing(999)).bellThen(0, 0, 1), 4);
            due("DAY 999, EVERY 8", at("b048;po000;", passing(999)).bellThen(0, 0, 1), -9);
        });
        edge("A DAY: DAY is 1 more;", () -> {
            OnlyStrangersHear x = new OnlyStrangersHear();
            x.days(1);
            due("from 0", x.count(2), 1);
            OnlyStrangersHear late = at(passing(998));
            late.days(1);
            due("from 998", late.count(2), 999);
        });
        edge("who is here, by numbers as many as there are BEDS, has SLEPT 1 more (99 at most),", () -> {
            OnlyStrangersHear x = at("pp005;pp098;pp005;pp099;pp005;e4;g02;");
            x.days(1);
            due("of four BEDS the first is his behind one AWAY", x.person(1, 2), 99);
            due("the second", x.person(2, 2), 6);
            due("99 stays", x.person(3, 2), 99);
            due("the fourth", x.person(4, 2), 6);
            x.days(1);
            due("up to 99 and no further", x.person(1, 2), 99);
            x.days(1);
            due("who is back takes the first", x.person(0, 2), 2);
            due("so none is left for the last", x.person(4, 2), 6);
            OnlyStrangersHear one = at("pp005;pp005;e1;d01;");
            due("one BED, the first", one.person(0, 2), 6);
            due("one BED, the second", one.person(1, 2), 4);
            due("98 in 60 DAYS", at("pp098;d60;").person(0, 2), 99);
        });
        edge("others here 1 less (0 at least);", () -> {
            OnlyStrangersHear x = at("pp005;pp002;e1;");
            int[] slept = {1, 0, 0};
            for (int d = 0; d < 3; d++) {
                x.days(1);
                due("on DAY " + (d + 1), x.person(1, 2), slept[d]);
            }
            due("2 in 60 DAYS", at("pp000;pp002;e1;d60;").person(1, 2), 0);
        });
        edge("who is AWAY has SLEPT 2 less (0 at least), AWAY 1 less.", () -> {
            OnlyStrangersHear x = at("pp005;pp001;pp000;pp002;g04;g11;g21;g31;");
            int[] slept = {3, 1, 0, 0, 1};
            int[] away = {3, 2, 1, 0, 0};
            for (int d = 0; d < 5; d++) {
                x.days(1);
                due("SLEPT on DAY " + (d + 1), x.person(0, 2), slept[d]);
                due("AWAY on DAY " + (d + 1), x.person(0, 3), away[d]);
            }
            OnlyStrangersHear y = at("pp001;pp000;pp002;g01;g11;g21;d01;");
            due("1 less 2", y.person(0, 2), 0);
            due("0 less 2", y.person(1, 2), 0);
            due("2 less 2", y.person(2, 2), 0);
            due("AWAY 1 in 5 DAYS", at("pp010;g01;d05;").person(0, 3), 0);
            due("SLEPT then: 10 less 2, 4 more", at("pp010;g01;d05;").person(0, 2), 12);
            due("AWAY 9 in 60 DAYS", at("pp040;g09;d60;").person(0, 3), 0);
            due("SLEPT then: 40 less 18, 51 more", at("pp040;g09;d60;").person(0, 2), 73);
        });
        edge("SAID of a BELL on a DAY it RINGS: the HOUR that most who HEAR it SAY,", () -> {
            due("one alone", at("b091;pl900;").bell(0, 3), 18);
            due("two of three", at("b091;pp000;pl900;pl900;").bell(0, 3), 18);
            due("five of eight", at("b091;" + "pp000;".repeat(3) + "pl900;".repeat(5)).bell(0, 3), 18);
            due("eight of eight", at("b091;" + "pl900;".repeat(8)).bell(0, 3), 18);
            due("those who HEAR it not have no voice", at("b091;pp009;pc000;pl900;").bell(0, 3), 18);
        });
        edge("of several the least; -9 nobody HEARS it.", () -> {
            due("two, the later one less", at("b091;pl900;pp000;").bell(0, 3), 9);
            due("two, the first less", at("b091;pp000;pl900;").bell(0, 3), 9);
            due("four and four", at("b091;" + "pd000;".repeat(4) + "pp000;".repeat(4)).bell(0, 3), 9);
            due("behind 23 comes 0", at("b231;pp000;pd000;").bell(0, 3), 0);
            due("behind 23, of three", at("b221;pp000;pl200;pd000;").bell(0, 3), 0);
            due("all eight unlike", at("b201;pl000;pl100;pl200;pl300;pl500;pl600;pl700;pl800;").bell(0, 3), 1);
            due("nobody at all", at("b001;").bell(0, 3), -9);
            due("nobody HEARS it", at("b001;pc000;").bell(0, 3), -9);
            due("HOUR 0 is SAID", at("b001;pp000;").bell(0, 3), 0);
        });
        edge("(PEOPLE as that DAY is over.)", () -> {
            due("who has SLEPT one too many then", at("b091;pp008;").bellThen(0, 1, 1), -9);
            due("who has SLEPT one less", at("b091;pp007;").bellThen(0, 1, 1), 9);
            due("who is back then", at("b091;pp010;g01;").bellThen(0, 1, 1), 9);
            due("who is not yet back", at("b091;pp000;g02;").bellThen(0, 1, 1), -9);
        });
    }

    // ---- II ----

    private static void thought() {
        plain("==== II.");
        edge("(In thought DAY may pass 999.)", () -> {
            OnlyStrangersHear x = at("b045;b049;po000;", passing(999));
            due("1000, EVERY 5", x.bellThen(0, 1, 1), 4);
            due("1000, EVERY 9", x.bellThen(1, 1, 1), -9);
            due("1098, EVERY 9", x.bellThen(1, 99, 1), 4);
            due("rings up to 1039", x.rings(0, 40, 0), 8);
            due("next", x.next(0), 1);
            due("together on 1035", x.together(), 36);
            x.goes(0, 9);
            due("AWAY", x.personThen(0, 9, 1), 0);
            due("DAY is as it was", x.count(2), 999);
        });
        edge("In mind, n DAYS on (0 .. 99): SLEPT of one, AWAY;", () -> {
            OnlyStrangersHear x = at("pp000;pp099;pp098;e1;");
            due("SLEPT, 0 on", x.personThen(1, 0, 0), 99);
            due("SLEPT, 1 on", x.personThen(1, 1, 0), 98);
            due("SLEPT, 98 on", x.personThen(0, 98, 0), 98);
            due("SLEPT, 99 on", x.personThen(0, 99, 0), 99);
            due("SLEPT less, 98 on", x.personThen(1, 98, 0), 1);
            due("SLEPT less, 99 on", x.personThen(1, 99, 0), 0);
            due("SLEPT 0 at least", x.personThen(2, 99, 0), 0);
            x.goes(0, 9);
            due("AWAY, 0 on", x.personThen(0, 0, 1), 9);
            due("AWAY, 8 on", x.personThen(0, 8, 1), 1);
            due("AWAY, 9 on", x.personThen(0, 9, 1), 0);
            due("AWAY, 99 on", x.personThen(0, 99, 1), 0);
            due("SLEPT with nine nights AWAY, 99 on", x.personThen(0, 99, 0), 90);
            due("-1 on", x.personThen(0, -1, 0), -4);
            due("100 on", x.personThen(0, 100, 0), -6);
        });
        edge("who HEARS a BELL (bits, whether it RINGS or not);", () -> {
            OnlyStrangersHear x = at("b099;" + "pp007;".repeat(8));
            due("0 on, it RINGS", x.bellThen(0, 0, 0), 255);
            due("1 on, it RINGS not", x.bellThen(0, 1, 0), 255);
            due("2 on", x.bellThen(0, 2, 0), 0);
            due("the last alone", at("b099;" + "pc000;".repeat(7) + "pp000;").bellThen(0, 1, 0), 128);
            due("nobody", at("b099;").bellThen(0, 1, 0), 0);
            due("99 on", at("b049;po000;").bellThen(0, 99, 0), 1);
        });
        edge("what is SAID of it (-9, too, if it RINGS not).", () -> {
            OnlyStrangersHear x = at("b009;pw900;");
            due("0 on", x.bellThen(0, 0, 1), 0);
            due("it RINGS not, though it is heard", x.bellThen(0, 8, 1), -9);
            due("9 on", x.bellThen(0, 9, 1), 0);
            due("it RINGS, nobody HEARS it", x.bellThen(0, 18, 1), -9);
            due("99 on", at("b049;po000;").bellThen(0, 99, 1), 4);
        });
        edge("DEAF: behind how many DAYS (0 .. 99) one HEARS no BELL first; -9.", () -> {
            due("now", at("b091;pp009;").deaf(0), 0);
            due("tomorrow", at("b091;pp008;").deaf(0), 1);
            due("as late as can be", at("b091;pd900;").deaf(0), 36);
            due("an OLD one of HOUR 4 never", at("b041;po099;").deaf(0), -9);
            due("of two BELLS one is enough", at("b051;b041;po099;").deaf(0), -9);
            due("without a bed never", at("b091;pp000;pp008;e1;").deaf(1), -9);
            due("who is AWAY is so now", at("b041;po000;g09;").deaf(0), 0);
            due("first, though he HEARS again", at("b091;pp099;pp008;e1;g02;").deaf(1), 1);
            due("he HEARS again", at("b091;pp099;pp008;e1;g02;").bellThen(0, 4, 0), 2);
            due("without BELLS", at("pp000;").deaf(0), 0);
        });
        edge("LOST: the BELL that somebody HEARS now and nobody does first (RINGING or not; within 99 DAYS), "
                + "of several the least; -9; when.", () -> {
            lost("tomorrow", "b099;pp008;", 0, 1);
            lost("on a DAY it RINGS", "b091;pp008;", 0, 1);
            lost("of six the least", "b001;b011;b021;b031;b051;b061;pp000;", 0, 9);
            lost("the others are still heard", "b041;b041;b041;b041;b041;b051;po000;pp000;", 5, 9);
            lost("as late as can be", "b091;pd900;pd900;g19;", 0, 45);
            lost("never", "b041;po000;", -9, -9);
            lost("nobody HEARS it now", "b051;b041;po000;", -9, -9);
            lost("nobody HEARS it now, but later, and then no more", "b051;pp000;g01;", -9, -9);
            lost("first, though one HEARS it again", "b091;pp099;pp008;e1;g02;", 0, 1);
            lost("no BELLS", "pp000;", -9, -9);
            lost("nobody", "b091;", -9, -9);
        });
        edge("TRUE: how many of the next n DAYS (1 .. 40) a BELL RINGS and is SAID rightly;", () -> {
            due("1, today is none", at("b042;po000;").rings(0, 1, 0), 0);
            due("1, tomorrow", at("b041;po000;").rings(0, 1, 0), 1);
            due("2, the last is one", at("b042;po000;").rings(0, 2, 0), 1);
            due("39, EVERY 8", at("b048;po000;").rings(0, 39, 0), 4);
            due("40, EVERY 8", at("b048;po000;").rings(0, 40, 0), 5);
            due("40, EVERY 1", at("b041;po000;").rings(0, 40, 0), 40);
            due("SAID wrongly", at("b041;pd900;").rings(0, 40, 0), 0);
            due("nobody HEARS it", at("b041;").rings(0, 40, 0), 0);
            due("as long as he HEARS it", at("b091;pp000;").rings(0, 40, 0), 8);
            due("0", at("b041;").rings(0, 0, 0), -4);
            due("41", at("b041;").rings(0, 41, 0), -6);
        });
        edge("UNHEARD: RINGS and nobody HEARS it.", () -> {
            due("1, today is none", at("b042;").rings(0, 1, 1), 0);
            due("1, tomorrow", at("b041;").rings(0, 1, 1), 1);
            due("39, EVERY 8", at("b048;").rings(0, 39, 1), 4);
            due("40, EVERY 8", at("b048;").rings(0, 40, 1), 5);
            due("40, EVERY 1", at("b041;").rings(0, 40, 1), 40);
            due("SAID wrongly is heard", at("b041;pd900;").rings(0, 35, 1), 0);
            due("one DAY more is not", at("b041;pd900;").rings(0, 36, 1), 1);
            due("never", at("b041;po000;").rings(0, 40, 1), 0);
        });
    }

    private static void lost(String what, String town, int which, int when) {
        due(what + ", which", at(town).lost(0), which);
        due(what + ", when", at(town).lost(1), when);
    }

    private static void sending() {
        edge("SEND of a BELL: who had better go AWAY now for k nights (1 .. 9)", () -> {
            due("1, who would be deaf tomorrow", at("b091;pp008;").send(0, 1, 1), 0);
            due("2, not back tomorrow", at("b091;pp008;").send(0, 2, 1), -9);
            due("9, so that 26 become 8", at("b091;pp026;").send(0, 9, 9), 0);
            due("9, 27 become 9", at("b091;pp027;").send(0, 9, 9), -9);
            due("8, so that 26 become 10", at("b091;pp026;").send(0, 8, 9), -9);
            due("0", at("b091;pp008;").send(0, 0, 1), -4);
            due("10", at("b091;pp008;").send(0, 10, 1), -6);
        });
        edge("so that it RINGS and is SAID rightly on most of the next n DAYS (1 .. 40),", () -> {
            due("1", at("b091;pp008;").send(0, 1, 1), 0);
            due("1, it RINGS not tomorrow", at("b092;pp008;").send(0, 1, 1), -9);
            due("40, who has no bed: 49 less 41", at("b098;e1;pp099;pp049;").send(0, 1, 40), 1);
            due("39, it RINGS on the 40th", at("b098;e1;pp099;pp049;").send(0, 1, 39), -9);
            due("0", at("b091;pp008;").send(0, 1, 0), -4);
            due("41", at("b091;pp008;").send(0, 1, 41), -6);
        });
        edge("on more than else, of several the least; -9.", () -> {
            due("as many as else", at("b091;pp000;").send(0, 1, 5), -9);
            due("two alike", at("b091;pp008;pp008;").send(0, 1, 1), 0);
            due("the last of eight", at("b091;" + "pc000;".repeat(7) + "pp008;").send(0, 1, 1), 7);
            due("the later on more", at("b091;pp009;pp008;").send(0, 1, 9), 1);
            due("the first on more", at("b091;pp008;pp009;").send(0, 1, 9), 0);
            due("nobody", at("b091;").send(0, 9, 40), -9);
        });
        edge("NIGHTS: for how many (1 .. 9) one had better go AWAY now", () -> {
            due("1", at("b091;pp008;").nightsFor(0, 1), 1);
            due("9", at("b091;pp026;").nightsFor(0, 9), 9);
            due("10 would be needed", at("b091;pp028;").nightsFor(0, 10), -9);
            due("1 is the fewest, though he is AWAY and could come back", at("b091;pp000;g09;").nightsFor(0, 5), 1);
        });
        edge("so that BELLS are together SAID rightly most in the next n DAYS, more than else, of several the fewest; "
                + "-9.", () -> {
            due("8, it takes a DAY more", at("b091;pp026;").nightsFor(0, 8), -9);
            due("40, who has no bed: 57 less 49", at("b098;e1;pp099;pp057;").nightsFor(1, 40), 9);
            due("39, it RINGS on the 40th", at("b098;e1;pp099;pp057;").nightsFor(1, 39), -9);
            due("as many as else", at("b091;pp000;").nightsFor(0, 5), -9);
            due("3 with 1, 3 with 2", at("b091;pp008;").nightsFor(0, 4), 1);
            due("3 with 1, 4 with 2", at("b091;pp008;").nightsFor(0, 5), 2);
            due("of one BELL it would be 1", at("b093;pp008;").nightsFor(0, 5), 1);
            due("together it is 2", at("b093;b095;pp008;").nightsFor(0, 5), 2);
            due("no BELLS", at("pp008;").nightsFor(0, 40), -9);
            due("0", at("b091;pp008;").nightsFor(0, 0), -4);
            due("41", at("b091;pp008;").nightsFor(0, 41), -6);
        });
        edge("FEWEST: the fewest PEOPLE (bits, of several the least) to be sent AWAY now for 5 nights", () -> {
            due("nobody is needed", at("b091;pp007;").fewest(1), 0);
            due("not yet back", at("b091;pp009;").fewest(4), -9);
            due("just back", at("b091;pp009;").fewest(5), 1);
            due("18 less 10", at("b091;pp018;").fewest(5), 1);
            due("19 less 10", at("b091;pp019;").fewest(5), -9);
            due("of two alike the least", at("b091;pp009;pp009;").fewest(5), 1);
            due("the last of eight", at("b091;" + "pc000;".repeat(7) + "pp009;").fewest(5), 128);
        });
        edge("so that each BELL is HEARD by somebody behind n DAYS (0 .. 40); -9.", () -> {
            due("0, all are heard", at("b091;b051;pp008;").fewest(0), 0);
            due("0, one is not", at("b041;b051;po000;").fewest(0), -9);
            due("40, who has no bed: 53 less 45", at("b091;e1;pp099;pp053;").fewest(40), 2);
            due("40, 54 less 45", at("b091;e1;pp099;pp054;").fewest(40), -9);
            due("39, 53 less 44", at("b091;e1;pp099;pp053;").fewest(39), -9);
            due("each, by two together", at("b041;b051;po000;pp009;").fewest(5), 2);
            due("whether it RINGS or not", at("b099;pp009;").fewest(5), 1);
            due("no BELLS", at("pp009;").fewest(40), 0);
            due("nobody", at("b091;").fewest(0), -9);
            due("-1", at("b091;").fewest(-1), -4);
            due("41", at("b091;").fewest(41), -6);
        });
    }

    private static void asking() {
        edge("ASK of a BELL: of those who HEAR it now and SAY it rightly", () -> {
            due("who will not HEAR it tomorrow", at("b091;pp008;").ask(0), 0);
            due("who HEARS it no more", at("b091;pp009;").ask(0), -9);
            due("who is AWAY", at("b041;po000;g01;").ask(0), -9);
            due("a LIAR of FIGURE 0", at("b091;pl000;").ask(0), 0);
            due("a LIAR of FIGURE 1", at("b091;pl100;").ask(0), -9);
            due("a DANE, though he HEARS it longer", at("b091;pd900;pp008;").ask(0), 1);
        });
        edge("the one who goes on HEARING it longest (till the first DAY of the next 99 behind which he does not; "
                + "none: longest of all), of several the least; -9.", () -> {
            due("by a DAY", at("b091;pp001;pp000;").ask(0), 1);
            due("till tomorrow and a DAY later", at("b091;pp008;pp007;").ask(0), 1);
            due("no such DAY", at("b041;pw900;po000;").ask(0), 1);
            due("no such DAY for two", at("b041;pw900;po000;po000;").ask(0), 1);
            due("the first DAY, though he HEARS it again", at("b091;e2;pp099;pp007;pp008;g02;").ask(0), 1);
            due("two alike", at("b091;pc000;pp003;pp003;").ask(0), 1);
            due("two till tomorrow", at("b091;pp008;pp008;").ask(0), 0);
            due("the last of eight", at("b091;" + "pp001;".repeat(7) + "pp000;").ask(0), 7);
            due("nobody", at("b091;").ask(0), -9);
        });
        edge("LEAVE: the one without whom most BELLS (by what is SAID, were all to RING now) are right, "
                + "more than else, of several the least; -9.", () -> {
            due("one of two", at("b231;pp000;pd000;").leave(), 1);
            due("as many as else", at("b091;pp000;pd000;").leave(), -9);
            due("fewer than else", at("b091;pp000;").leave(), -9);
            due("of two alike the least", at("b231;pp000;pp000;pd000;pd000;").leave(), 2);
            due("the last of eight", at("b231;" + "pc000;".repeat(6) + "pp000;pd000;").leave(), 7);
            due("on a DAY it RINGS not", at("b239;pp000;pd000;d01;").leave(), 1);
            due("on more than another", at("b201;b231;pl500;pp000;pl100;").leave(), 0);
            due("no BELLS", at("pp000;").leave(), -9);
            due("nobody", at("b231;").leave(), -9);
        });
        edge("RIGHT: how many BELLS were SAID rightly, were all to RING now;", () -> {
            due("none", new OnlyStrangersHear().right(0), 0);
            due("all six, on a DAY they RING not", at("b009;b019;b029;b039;b049;b239;pp000;d01;").right(0), 6);
            due("nobody HEARS it", at("b091;pp009;").right(0), 0);
            due("of two voices the less is right", at("b091;pp000;pd000;").right(0), 1);
            due("of two voices the less is wrong", at("b231;pp000;pd000;").right(0), 0);
        });
        edge("WRONG: how many not, of those that somebody HEARS.", () -> {
            due("none", new OnlyStrangersHear().right(1), 0);
            due("all six, on a DAY they RING not", at("b009;b019;b029;b039;b049;b239;pd000;d01;").right(1), 6);
            due("nobody HEARS it", at("b091;pp009;").right(1), 0);
            due("one HEARS one of two", at("b041;b051;po000;").right(1), 0);
            due("of two voices the less is right", at("b091;pp000;pd000;").right(1), 0);
            due("of two voices the less is wrong", at("b231;pp000;pd000;").right(1), 1);
        });
        edge("LAST: of those who HEAR some BELL now the one who is DEAF latest (never: latest of all), "
                + "of several the least; -9.", () -> {
            due("till tomorrow", at("b091;pp009;pp008;").right(2), 1);
            due("till tomorrow and a DAY later", at("b091;pp008;pp007;").right(2), 1);
            due("by a DAY", at("b091;pp001;pp000;").right(2), 1);
            due("what he SAYS is the same", at("b091;pp000;pd900;").right(2), 1);
            due("never", at("b041;pd900;po000;").right(2), 1);
            due("two never", at("b041;pd900;po000;po000;").right(2), 1);
            due("first DEAF, though he HEARS again", at("b091;e2;pp099;pp007;pp008;g02;").right(2), 1);
            due("two alike", at("b091;pc000;pp003;pp003;").right(2), 1);
            due("the last of eight", at("b091;" + "pp001;".repeat(7) + "pp000;").right(2), 7);
            due("who is AWAY HEARS none now", at("b091;pd900;pp008;g01;").right(2), 1);
            due("none HEARS one", at("b091;pp009;").right(2), -9);
            due("no BELLS", at("pp000;").right(2), -9);
        });
    }

    private static void agreeing() {
        edge("CLASH: how many twos HEAR one BELL both now and SAY it unlike; the first (10 the lesser and the other); "
                + "-9.", () -> {
            clash("nobody", "b091;", 0, -9);
            clash("one alone", "b091;pp000;", 0, -9);
            clash("two alike", "b091;pd000;pl100;", 0, -9);
            clash("two unlike", "b091;pp000;pd000;", 1, 1);
            clash("all eight unlike", "b091;pl000;pl100;pl200;pl300;pl400;pl500;pl600;pl700;", 28, 1);
            clash("the last two", "b091;" + "pp000;".repeat(7) + "pd000;s009;s109;s209;s309;s409;s509;", 1, 67);
            clash("the first and the last", "b091;pd000;pc000;pc000;pc000;pc000;pc000;pc000;pp000;", 1, 7);
            clash("0 and 7 before 1 and 7", "b091;" + "pp000;".repeat(7) + "pd000;", 7, 7);
            clash("in many BELLS counts once", "b011;b021;b031;b051;b061;b071;pp000;pd000;", 1, 1);
            clash("one is AWAY", "b091;pp000;pd000;g11;", 0, -9);
            clash("one HEARS no more", "b091;pp009;pd000;", 0, -9);
            clash("one BELL each", "b041;b051;po000;pd018;", 0, -9);
            clash("one BELL both", "b041;b051;po000;pd017;", 1, 1);
            clash("on a DAY it RINGS not", "b099;pp000;pd000;d01;", 1, 1);
            clash("no BELLS", "pp000;pd000;", 0, -9);
        });
        edge("AGREED: the most PEOPLE (bits, of several the least) who each HEAR some BELL now, "
                + "no two of whom CLASH in any: how many; which.", () -> {
            agreed("nobody", "b091;", 0, 0);
            agreed("none HEARS one", "b091;pp009;pc000;", 0, 0);
            agreed("no BELLS", "pp000;", 0, 0);
            agreed("one", "b091;pp009;pp008;", 1, 2);
            agreed("all eight alike", "b091;" + "pp000;".repeat(8), 8, 255);
            agreed("all eight unlike", "b091;pl000;pl100;pl200;pl300;pl400;pl500;pl600;pl700;", 1, 1);
            agreed("four and four", "b091;" + "pd000;".repeat(4) + "pp000;".repeat(4), 4, 15);
            agreed("four and four by turns", "b091;" + "pd000;pp000;".repeat(4), 4, 85);
            agreed("three and five", "b091;" + "pd000;".repeat(3) + "pp000;".repeat(5), 5, 248);
            agreed("one who HEARS a BELL that none else does", "b041;b051;po000;pd018;pd017;", 1, 1);
        });
        edge("HOURS: HOURS (bits of 24) that are SAID by somebody now of some BELL;", () -> {
            due("none", new OnlyStrangersHear().hours(0), 0);
            due("nobody", at("b001;").hours(0), 0);
            due("nobody HEARS it", at("b001;pp009;").hours(0), 0);
            due("HOUR 0", at("b001;pp000;").hours(0), 1);
            due("HOUR 23", at("b231;pp000;").hours(0), 1 << 23);
            due("behind 23 comes 0", at("b231;pd000;").hours(0), 1);
            due("each is told once", at("b231;b231;pp000;pp000;pd000;").hours(0), 1 << 23 | 1);
            due("on a DAY it RINGS not", at("b099;pp000;d01;").hours(0), 1 << 9);
            due("all 24", at("b001;b101;b201;pl000;pl100;pl300;pl400;pl500;pl600;pl900;pl200;").hours(0)
                    | at("b071;b081;b171;b181;pl000;").hours(0), (1 << 24) - 1);
        });
        edge("SILENT: BELLS (bits) that none HEARS now.", () -> {
            due("none", new OnlyStrangersHear().hours(1), 0);
            due("the first of six", at("b051;b041;b041;b041;b041;b041;po000;").hours(1), 1);
            due("the last of six", at("b041;b041;b041;b041;b041;b051;po000;").hours(1), 32);
            due("all six", at("b001;b011;b021;b031;b041;b051;").hours(1), 63);
            due("all are heard", at("b001;b011;b021;b031;b041;b051;pp008;").hours(1), 0);
            due("one is AWAY", at("b001;b011;pp008;g01;").hours(1), 3);
        });
    }

    private static void clash(String what, String town, int many, int first) {
        due(what + ", how many", at(town).clash(0), many);
        due(what + ", the first", at(town).clash(1), first);
    }

    private static void agreed(String what, String town, int many, int which) {
        due(what + ", how many", at(town).agreed(0), many);
        due(what + ", which", at(town).agreed(1), which);
    }

    private static void waiting() {
        edge("BED: the fewest BEDS (1 .. 8) with which all BELLS are HEARD by somebody behind n DAYS (0 .. 40); -9.",
                () -> {
            due("0, all are heard", at("b091;b051;pp008;").bedsFor(0), 1);
            due("0, one is not", at("b041;b051;po000;").bedsFor(0), -9);
            due("1, the only one has a bed", at("b091;pp008;").bedsFor(1), -9);
            due("40, who has no bed: 48 less 40", at("b091;pp099;pp048;").bedsFor(40), 1);
            due("40, 49 less 40", at("b091;pp099;pp049;").bedsFor(40), -9);
            due("39, 48 less 39", at("b091;pp099;pp048;").bedsFor(39), -9);
            due("of eight the last", at("b091;" + "pp099;".repeat(7) + "pp048;").bedsFor(40), 1);
            due("whatever BEDS there are", at("b091;pp099;pp048;e2;").bedsFor(40), 1);
            due("no BELLS", at("pp099;").bedsFor(40), 1);
            due("nobody", at("b091;").bedsFor(0), -9);
            due("-1", at("b091;").bedsFor(-1), -4);
            due("41", at("b091;").bedsFor(41), -6);
        });
        edge("NEXT: behind how many DAYS (1 .. 9) a BELL RINGS;", () -> {
            due("EVERY 1", at("b041;").next(0), 1);
            OnlyStrangersHear x = at("b049;");
            due("EVERY 9, it RINGS now", x.next(0), 9);
            x.days(1);
            due("it rang yesterday", x.next(0), 8);
            x.days(7);
            due("it RINGS tomorrow", x.next(0), 1);
            x.days(1);
            due("it RINGS again now", x.next(0), 9);
        });
        edge("TOGETHER: behind how many DAYS (1 .. 99) all BELLS RING on one first; -9 (there are none, too).", () -> {
            due("1", at("b041;b041;").together(), 1);
            due("one alone", at("b049;").together(), 9);
            due("72", at("b048;b049;").together(), 72);
            due("now is none of them", at("b048;b049;", passing(72)).together(), 72);
            due("tomorrow", at("b048;b049;", passing(71)).together(), 1);
            due("six", at("b041;b042;b043;b044;b045;b046;").together(), 60);
            due("504 from 405", at("b047;b048;b049;", passing(405)).together(), 99);
            due("504 from 404", at("b047;b048;b049;", passing(404)).together(), -9);
            due("there are none", new OnlyStrangersHear().together(), -9);
        });
        edge("COST of sending one for k nights (1 .. 9): by how many DAYS of the next 20 fewer he HEARS a BELL told "
                + "than without (below 0 more).", () -> {
            due("1, back as the first DAY is over", at("b041;po099;").cost(0, 1, 0), 0);
            due("2", at("b041;po099;").cost(0, 2, 0), 1);
            due("9", at("b041;po099;").cost(0, 9, 0), 8);
            due("whether it RINGS or not", at("b049;po099;").cost(0, 9, 0), 8);
            due("the 20th DAY counts", at("b091;pd100;").cost(0, 1, 0), -1);
            due("the 21st counts not", at("b091;pd201;").cost(0, 1, 0), 0);
            due("today counts not", at("b091;pp008;").cost(0, 9, 0), -9);
            due("as many more as can be", at("b091;pd936;").cost(0, 9, 0), -12);
            due("0, a BELL he HEARS never", at("b041;b051;po099;").cost(0, 9, 1), 0);
            due("0 nights", at("b041;po099;").cost(0, 0, 0), 1000000004);
            due("10 nights", at("b041;po099;").cost(0, 10, 0), 1000000006);
        });
    }

    private static void twoAndOdds() {
        edge("TWO, each a LIAR from now (1: KIND l, FIGURE 5) or as he is (0): the one wants most BELLS RINGING to be "
                + "SAID rightly in the next n DAYS (1 .. 20), the other fewest:", () -> {
            due("1", at("b201;pp000;pp000;").two(0, 1, 1), 1);
            due("1, it RINGS not", at("b202;pp000;pp000;").two(0, 1, 1), 0);
            due("20, who has no bed: 28 less 20", at("b094;e1;pc099;pp028;").two(0, 1, 20), 1);
            due("19, it RINGS on the 20th", at("b094;e1;pc099;pp028;").two(0, 1, 19), 0);
            due("5 later than 19 is less", at("b191;pp000;pp000;").two(0, 1, 1), 1);
            due("5 later than 18 is not", at("b181;pp000;pp000;").two(0, 1, 1), 0);
            due("a LIAR HEARS till he has SLEPT 9", at("b201;pp000;pw908;").two(0, 1, 1), 0);
            due("0", at("b201;pp000;pp000;").two(0, 1, 0), -4);
            due("21", at("b201;pp000;pp000;").two(0, 1, 21), -6);
        });
        edge("the first pair (10 the first's and the other's) by which neither has better by another one alone; -9.",
                () -> {
            due("neither lies", at("b091;pp000;pp000;").two(0, 1, 3), 0);
            due("all pairs alike", at("b091;pc099;pc099;").two(0, 1, 3), 0);
            due("no BELLS", at("pp000;pp000;").two(0, 1, 3), 0);
            due("the other", at("b201;pp000;pp000;").two(0, 1, 3), 1);
            due("the other, told as the first", at("b201;pp000;pp000;").two(1, 0, 3), 1);
            due("the first", at("b091;pd000;pp020;pd000;pp000;").two(0, 1, 3), 10);
            due("both", at("b131;pd107;pc007;pd905;pw403;").two(0, 1, 2), 11);
            due("one always has better", at("b141;pd000;pd000;pp000;").two(0, 1, 1), -9);
        });
        edge("FOG: on each of n DAYS (0 .. 7), by itself, with odds 1 in t (2 .. 20) nobody SLEEPS "
                + "(SLEPT and AWAY stay): how likely a BELL is HEARD by somebody behind these: a fraction.", () -> {
            fog("0, it is heard", "b091;pp008;", 0, 2, 1, 1);
            fog("0, it is not", "b091;pp009;", 0, 20, 0, 1);
            fog("1 of 2, SLEPT stays", "b091;pp008;", 1, 2, 1, 2);
            fog("1 of 20, SLEPT stays", "b091;pp008;", 1, 20, 1, 20);
            fog("1 of 3, AWAY stays", "b091;pp000;g01;", 1, 3, 2, 3);
            fog("7 of 2, all but all clear", "b091;pp002;", 7, 2, 127, 128);
            fog("7 of 2, all fogs", "b091;pp008;", 7, 2, 1, 128);
            fog("7 of 20, all but all clear", "b091;pp002;", 7, 20, 386128261, 1280000000);
            fog("7 of 20, all fogs", "b091;pp008;", 7, 20, 1, 1280000000);
            fog("7 of 20, whatever comes", "b091;pp001;", 7, 20, 1, 1);
            fog("cut, 2 of 4 ways", "b091;pp010;g01;", 2, 2, 1, 2);
            fog("whether it RINGS or not", "b099;pp008;", 1, 2, 1, 2);
            fog("nobody", "b091;", 7, 20, 0, 1);
            OnlyStrangersHear x = at("b091;");
            due("-1", x.fog(0, -1, 2, 0), LONG + 4);
            due("8", x.fog(0, 8, 2, 0), LONG + 6);
            due("1 in 1", x.fog(0, 0, 1, 0), LONG + 4);
            due("1 in 21", x.fog(0, 0, 21, 0), LONG + 6);
        });
        edge("MEAN: of SLEPT of all: a fraction (0 by 1 of nobody).", () -> {
            mean("nobody", "b091;", 0, 1);
            mean("one, 0", "pp000;", 0, 1);
            mean("one, 99", "pp099;", 99, 1);
            mean("eight, 99", "pp099;".repeat(8), 99, 1);
            mean("eight, but one", "pp099;".repeat(7) + "pp098;", 791, 8);
            mean("eight, 0", "pp000;".repeat(8), 0, 1);
            mean("cut", "pp001;pp002;pp003;pp000;", 3, 2);
            mean("who is AWAY is one of all", "pp004;pp001;g09;", 5, 2);
            due("nobody at all, above", new OnlyStrangersHear().mean(0), 0);
            due("nobody at all, below", new OnlyStrangersHear().mean(1), 1);
        });
    }

    private static void fog(String what, String town, int n, int t, long above, long below) {
        due(what + ", above the line", at(town).fog(0, n, t, 0), above);
        due(what + ", below the line", at(town).fog(0, n, t, 1), below);
    }

    private static void mean(String what, String town, long above, long below) {
        due(what + ", above the line", at(town).mean(0), above);
        due(what + ", below the line", at(town).mean(1), below);
    }

    private static void whatIs(String what, String town, int kinds, int figures, int... numbers) {
        OnlyStrangersHear x = at(town);
        fill(x, numbers);
        due(what + ", KINDS", x.whatIs(0, 0, 0), kinds);
        due(what + ", FIGURES", x.whatIs(0, 0, 1), figures);
    }

    private static void judged(String what, String town, int want, int... numbers) {
        OnlyStrangersHear x = at(town);
        fill(x, numbers);
        due(what, x.judge(), want);
    }

    private static void rowsAndLots() {
        edge("WHAT ONE IS: a ROW tells the HOUR one SAYS of a told BELL behind 0, 1, .. DAYS (99 he HEARS it not):",
                () -> {
            whatIs("now", "b091;pp308;", 0b000101, 0b1111111111, 9);
            whatIs("now and tomorrow", "b091;pp008;", 0b010101, 0b1111111111, 9, 99);
            whatIs("he HEARS it on tomorrow", "b091;pp008;", 0, 0, 9, 9);
            whatIs("he HEARS it not", "b091;pc000;", 0b100010, 0b1111111111, 99);
            whatIs("AWAY for a night", "b091;pp500;g01;", 0b000101, 0b1111111111, 99, 9);
            whatIs("whether it RINGS or not", "b099;pp500;", 0b000101, 0b1111111111, 9, 9);
            whatIs("16 numbers, the last tells", "b091;pw702;", 0b000100, 1 << 7, row(14, 9, 99, 99));
            whatIs("16 numbers, the last is not so", "b091;pw702;", 0, 0, row(14, 9, 99, 9));
        });
        edge("KINDS (bits) of him by which all of it is so;", () -> {
            OnlyStrangersHear x = at("b041;po000;");
            due("an empty ROW", x.whatIs(0, 0, 0), 63);
            whatIs("the first KIND", "b091;pp908;", 0b000001, 0b1111111111, 9, 99);
            whatIs("the last KIND", "b041;po099;", 0b100000, 0b1111111111, 4);
            whatIs("none", "b091;pp000;", 0, 0, 10, 9);
            whatIs("with his own FIGURE", "b091;pl300;", 0b010000, 1 << 3, 12);
            whatIs("the first is not so", "b091;pp000;", 0, 0, 99, 9);
        });
        edge("FIGURES (bits 0 .. 9).", () -> {
            OnlyStrangersHear x = at("b091;pl000;");
            due("an empty ROW", x.whatIs(0, 0, 1), 1023);
            whatIs("the least", "b231;pl500;", 0b000101, 1, 23);
            whatIs("the greatest", "b231;pl500;", 0, 1 << 9, 8);
            whatIs("one more than the greatest", "b231;pl500;", 0, 0, 9);
            whatIs("the greatest of a WANDERER", "b091;pw017;", 0, 1 << 9, 9, 99);
            whatIs("all but the least of a DANE", "b091;pd018;", 0, 0b1111111110, 10);
        });
        edge("A ROW of numbers (0 .. 99; 16 at most):", () -> {
            OnlyStrangersHear x = new OnlyStrangersHear();
            due("one less than the least", x.row(-1), -4);
            due("one more than the greatest", x.row(100), -6);
            due("the least", x.row(0), 1);
            due("the greatest", x.row(99), 2);
            for (int i = 3; i <= 16; i++) {
                due("number " + i, x.row(i), i);
            }
            due("a 17th", x.row(0), -6);
            due("16 still", x.count(6), 16);
        });
        edge("JUDGED: how many HEAR some BELL behind 0, 1, .. DAYS: the first that is not so; -9.", () -> {
            judged("none", "b091;pp000;", -9);
            judged("the first", "b091;pp008;", 0, 0);
            judged("one alone, so", "b091;pp008;", -9, 1);
            judged("the second", "b091;pp008;", 1, 1, 1);
            judged("two, so", "b091;pp008;", -9, 1, 0);
            judged("three, so", "b091;pp007;", -9, 1, 1, 0);
            judged("the first of two", "b091;pp008;", 0, 0, 1);
            judged("the 16th", "b041;po000;", 15, row(15, 1, 0));
            judged("16, so", "b041;po000;", -9, row(16, 1));
            judged("eight", "b091;" + "pp008;".repeat(8), -9, 8, 0);
            judged("of two BELLS he counts once", "b091;b041;pp008;po000;", -9, 2, 1);
            judged("no BELLS", "pp000;", -9, 0, 0);
            judged("nobody", "b091;", 0, 99);
        });
        edge("LOTS with a seed z: n towns (1 .. 20): SLEPT of each, by numbers, a DRAW below 20, then 10 DAYS: "
                + "how many HEAR some BELL of all together; SLEPT.", () -> {
            // The draws from 0 are 3, 17, 6, 19, 9, 10, 4, 7, 14, 15, 7, 9, 13, 14, 13, 16, 19, 2, 1, 0: in all 198.
            OnlyStrangersHear x = at("b091;pd000;");
            due("1, SLEPT", x.lots(1, 0, 1), 13);
            due("1, who HEAR", x.lots(1, 0, 0), 1);
            due("2, SLEPT", x.lots(2, 0, 1), 40);
            due("2, who HEAR", x.lots(2, 0, 0), 1);
            due("20, SLEPT", x.lots(20, 0, 1), 398);
            due("20, who HEAR: drawn below 8", x.lots(20, 0, 0), 8);
            due("eight by numbers: 3, 17, 6, 19 have no bed", at("b091;" + "pc000;".repeat(4) + "pw900;".repeat(4)
                    + "g01;g11;g21;g31;").lots(1, 0, 0), 2);
            due("two, one BED: 3 and 10, 17 less 10", at("pp000;pp000;e1;").lots(1, 0, 1), 20);
            due("nobody", at("b091;").lots(20, 0, 1), 0);
            due("no BELLS", at("pp000;").lots(20, 0, 0), 0);
            due("0", x.lots(0, 0, 0), -4);
            due("21", x.lots(21, 0, 0), -6);
        });
        edge("A DRAW below m: z becomes z times 1664525 and 1013904223 (an int); "
                + "(z without its sign's bit by 256, cut) modulo m.", () -> {
            OnlyStrangersHear x = at("pp000;");
            due("z 0", x.lots(1, 0, 1), 10 + 3);
            due("z 1", x.lots(1, 1, 1), 10 + 5);
            due("z -1", x.lots(1, -1, 1), 10 + 1);
            due("the greatest z, it has its sign's bit then", x.lots(1, GREATEST, 1), 10 + 1);
            due("the least z, it has its sign's bit then", x.lots(1, LEAST, 1), 10 + 3);
            due("20 from 1", x.lots(20, 1, 1), 200 + 169);
            due("20 from -1", x.lots(20, -1, 1), 200 + 172);
            due("20 from the greatest", x.lots(20, GREATEST, 1), 200 + 172);
            due("20 from the least", x.lots(20, LEAST, 1), 200 + 198);
        });
    }

    private static void imageAndRefusals() {
        edge("THE IMAGE: all that there is, but it, the ROW, letters, REFUSALS; ON from it all is as then.", () -> {
            OnlyStrangersHear x = at(FULL);
            x.image();
            List<Long> then = seen(x);
            x.goes(7, 9);
            x.sleeps(0, 99);
            x.turn(6, 5, 9);
            x.beds(1);
            x.days(60);
            x.row(5);
            x.letter('e');
            x.bell(6, 0);
            x.on();
            due("the ROW is no part of it", x.clear(), 1);
            due("REFUSALS are no part of it", x.count(11), 1);
            due("letters are no part of it", x.letter('2'), 2);
            x.letter(';');
            due("they tell what they told", x.town(), 1);
            x.on();
            same("ON a second time", seen(x), then);
            due("no REFUSAL but the one", x.count(11) + x.count(13), 1);
        });
        edge("THE IMAGE: all that there is, but it, the ROW, letters, REFUSALS; ON from it all is as then.", () -> {
            OnlyStrangersHear x = new OnlyStrangersHear();
            x.image();
            tell(x, FULL);
            x.on();
            due("no BELLS, as then", x.count(0), 0);
            due("nobody, as then", x.count(1), 0);
            due("all six may come again", tell(x, FULL), 14);
        });
        edge("REFUSALS (the call answers the number, the first that fits in the order in which it tells them; "
                + "nothing changes but how many there were):", () -> {
            refused(FULL, "turn(8, 6, 10)", x -> x.turn(8, 6, 10), -1);
            refused(FULL, "turn(7, 6, 10)", x -> x.turn(7, 6, 10), -2);
            refused(FULL, "turn(7, 5, 10)", x -> x.turn(7, 5, 10), -6);
            refused(FULL, "personThen(7, 100, 2)", x -> x.personThen(7, 100, 2), -6);
            refused(FULL, "personThen(7, 99, 2)", x -> x.personThen(7, 99, 2), -2);
            refused(FULL, "send(5, 10, 0)", x -> x.send(5, 10, 0), -4);
            refused(FULL, "send(5, 0, 41)", x -> x.send(5, 0, 41), -4);
        });
        edge("-1 NOBODY: no such BELL, one of PEOPLE, one twice.", () -> {
            refused(FULL, "BELL 6 of 6", x -> x.next(6), -1);
            refused(FULL, "8 of 8 PEOPLE", x -> x.deaf(8), -1);
            refused(FULL, "7 twice", x -> x.two(7, 7, 1), -1);
            taken(FULL, "BELL 5 of 6", x -> x.next(5));
            taken(FULL, "7 of 8 PEOPLE", x -> x.deaf(7));
            taken(FULL, "7 and 6", x -> x.two(7, 6, 1));
        });
        edge("-2 OTHER: what, KIND.", () -> {
            refused(FULL, "what 5 of a person", x -> x.person(0, 5), -2);
            refused(FULL, "KIND 6", x -> x.turn(0, 6, 0), -2);
            taken(FULL, "what 4 of a person", x -> x.person(0, 4));
            taken(FULL, "KIND 5", x -> x.turn(0, 5, 0));
        });
        edge("-3 STATE: it is not as it must be.", () -> {
            refused(() -> at(FULL), "on() without an image", OnlyStrangersHear::on, -3, PLAIN);
            taken(FULL, "on() with one", OnlyStrangersHear::on);
        });
        edge("-4 BELOW: a number below the least.", () -> {
            refused(FULL, "0 BEDS", x -> x.beds(0), -4);
            refused(FULL, "-1 nights", x -> x.goes(0, -1), -4);
            taken(FULL, "1 BED", x -> x.beds(1));
            taken(FULL, "0 nights", x -> x.goes(0, 0));
        });
        edge("-6 ROOM: a number above the greatest, no room.", () -> {
            refused(FULL, "9 BEDS", x -> x.beds(9), -6);
            refused(FULL, "10 nights", x -> x.goes(0, 10), -6);
            refused(TermsBoundaryTest::withFullRow, "a number more than 16", x -> x.row(0), -6, PLAIN);
            taken(FULL, "8 BEDS", x -> x.beds(8));
            taken(FULL, "9 nights", x -> x.goes(0, 9));
        });
        edge("Of cost() REFUSALS are 1000000000 less them (-1 is told as 1000000001),", () -> {
            refused(FULL, "cost(8, 1, 0)", x -> x.cost(8, 1, 0), -1, COST);
            refused(FULL, "cost(0, 0, 0)", x -> x.cost(0, 0, 0), -4, COST);
            refused(FULL, "cost(0, 10, 0)", x -> x.cost(0, 10, 0), -6, COST);
            due("-1", new OnlyStrangersHear().cost(0, 1, 0), 1000000001);
        });
        edge("of longs 4000000000000000000 less them (-1 as 4000000000000000001).", () -> {
            refused(FULL, "fog(6, 0, 2, 0)", x -> x.fog(6, 0, 2, 0), -1, LONG);
            refused(FULL, "fog(0, 0, 2, 2)", x -> x.fog(0, 0, 2, 2), -2, LONG);
            refused(FULL, "fog(0, -1, 2, 0)", x -> x.fog(0, -1, 2, 0), -4, LONG);
            refused(FULL, "fog(0, 8, 2, 0)", x -> x.fog(0, 8, 2, 0), -6, LONG);
            refused(FULL, "mean(2)", x -> x.mean(2), -2, LONG);
            due("-1", new OnlyStrangersHear().fog(0, 0, 2, 0), 4000000000000000001L);
        });
    }

    private static OnlyStrangersHear withFullRow() {
        OnlyStrangersHear x = at("b041;po000;");
        x.image();
        for (int i = 0; i < 16; i++) {
            x.row(1);
        }
        return x;
    }
}
