import java.util.ArrayList;
import java.util.Arrays;
import java.util.List;
import java.util.function.IntBinaryOperator;
import java.util.function.Predicate;
import java.util.regex.Matcher;
import java.util.regex.Pattern;

/**
 * Runs of drawn calls, each answered by the class and by a second, slow telling of the document.
 * The model goes day by day, holds each kind as a class under its kind, and looks for every best by
 * trying all, so that it shares no shortcut with the class.
 */
public final class AgainstModelTest {
    private static final int RUNS = 1500;
    private static int wrong = 0;

    public static void main(String[] args) {
        for (int run = 0; run < RUNS && wrong < 20; run++) {
            new Run(run).go();
        }
        System.out.println(wrong == 0 ? RUNS + " runs answered as the model does" : wrong + " answers differ");
        if (wrong != 0) {
            System.exit(1);
        }
    }

    // ---- the model ----

    static class Person {
        int figure;
        int slept;
        int away;

        int number() {
            return 0;
        }

        int nights() {
            return 9;
        }

        int later() {
            return 0;
        }

        boolean hears(Bell bell) {
            return away == 0 && slept < nights();
        }

        int says(Bell bell) {
            return hears(bell) ? (bell.hour + later()) % 24 : -9;
        }
    }

    static class Child extends Person {
        @Override int number() {
            return 1;
        }

        @Override int nights() {
            return 0;
        }
    }

    static class Wanderer extends Person {
        @Override int number() {
            return 2;
        }

        @Override int nights() {
            return super.nights() + figure;
        }
    }

    static final class Dane extends Wanderer {
        @Override int number() {
            return 3;
        }

        @Override int nights() {
            return 2 * super.nights();
        }

        @Override int later() {
            return 1;
        }
    }

    static final class Liar extends Person {
        @Override int number() {
            return 4;
        }

        @Override int later() {
            return figure;
        }
    }

    static final class Old extends Child {
        @Override int number() {
            return 5;
        }

        @Override boolean hears(Bell bell) {
            return bell.hour == 4 ? away == 0 : super.hears(bell);
        }
    }

    static Person make(int kind, int figure, int slept, int away) {
        Person p = switch (kind) {
            case 0 -> new Person();
            case 1 -> new Child();
            case 2 -> new Wanderer();
            case 3 -> new Dane();
            case 4 -> new Liar();
            default -> new Old();
        };
        p.figure = figure;
        p.slept = slept;
        p.away = away;
        return p;
    }

    record Bell(int hour, int every) { }

    static final class State {
        List<Bell> bells = new ArrayList<>();
        List<Person> people = new ArrayList<>();
        int day = 0;
        int beds = 8;

        State copy() {
            State s = new State();
            s.bells.addAll(bells);
            for (Person p : people) {
                s.people.add(make(p.number(), p.figure, p.slept, p.away));
            }
            s.day = day;
            s.beds = beds;
            return s;
        }

        void turn(int person, int kind, int figure) {
            Person p = people.get(person);
            people.set(person, make(kind, figure, p.slept, p.away));
        }

        void sleep() {
            day++;
            int taken = 0;
            for (Person p : people) {
                if (p.away > 0) {
                    p.away--;
                    p.slept = Math.max(p.slept - 2, 0);
                } else if (taken < beds) {
                    taken++;
                    p.slept = Math.min(p.slept + 1, 99);
                } else {
                    p.slept = Math.max(p.slept - 1, 0);
                }
            }
        }

        State on(int n) {
            State s = copy();
            for (int i = 0; i < n; i++) {
                s.sleep();
            }
            return s;
        }

        boolean isHeard(Bell bell) {
            return people.stream().anyMatch(p -> p.hears(bell));
        }

        boolean allHeard() {
            return bells.stream().allMatch(this::isHeard);
        }

        boolean hearsSome(Person p) {
            return bells.stream().anyMatch(p::hears);
        }

        int hearSome() {
            return (int) people.stream().filter(this::hearsSome).count();
        }

        int slept() {
            return people.stream().mapToInt(p -> p.slept).sum();
        }

        int said(Bell bell, Person without) {
            int[] votes = new int[24];
            for (Person p : people) {
                if (p != without && p.hears(bell)) {
                    votes[p.says(bell)]++;
                }
            }
            int most = Arrays.stream(votes).max().getAsInt();
            for (int h = 0; h < 24; h++) {
                if (votes[h] == most && most > 0) {
                    return h;
                }
            }
            return -9;
        }

        boolean isRight(Bell bell) {
            return said(bell, null) == bell.hour;
        }

        boolean rings(Bell bell) {
            return day % bell.every == 0;
        }

        int trueDays(Bell bell, int n) {
            int many = 0;
            for (int d = 1; d <= n; d++) {
                State s = on(d);
                many += s.rings(bell) && s.isRight(bell) ? 1 : 0;
            }
            return many;
        }

        int trueDaysOfAll(int n) {
            return bells.stream().mapToInt(b -> trueDays(b, n)).sum();
        }

        int rightWithout(Person p) {
            return (int) bells.stream().filter(b -> said(b, p) == b.hour).count();
        }

        boolean clash(int i, int j) {
            Person p = people.get(i);
            Person q = people.get(j);
            return bells.stream().anyMatch(b -> p.hears(b) && q.hears(b) && p.says(b) != q.says(b));
        }
    }

    static final class Model {
        State s = new State();
        State image = null;
        StringBuilder letters = new StringBuilder();
        List<Integer> row = new ArrayList<>();
        int[] refusals = new int[7];

        static final String STATEMENT = "b\\d{3};|p[pcwdlo]\\d{3};|g\\d\\d;|s\\d{3};|e\\d;|d\\d\\d;";
        static final Pattern TOWN = Pattern.compile("(?:" + STATEMENT + ")+", Pattern.DOTALL);
        static final Pattern ONE = Pattern.compile(STATEMENT);

        int no(int code) {
            refusals[-code]++;
            return code;
        }

        boolean noBell(int b) {
            return b < 0 || b >= s.bells.size();
        }

        boolean noOne(int p) {
            return p < 0 || p >= s.people.size();
        }

        int bits(int many, Predicate<Integer> is) {
            int bits = 0;
            for (int i = 0; i < many; i++) {
                bits |= is.test(i) ? 1 << i : 0;
            }
            return bits;
        }

        /** The number with the greatest value above a floor, the least of several; -9. */
        int best(int from, int to, int floor, IntBinaryOperator value) {
            int best = -9;
            int most = floor;
            for (int i = from; i <= to; i++) {
                int v = value.applyAsInt(i, 0);
                if (v > most) {
                    most = v;
                    best = i;
                }
            }
            return best;
        }

        int letter(int c) {
            if (c < 0) return no(-4);
            if (c > 255 || letters.length() == 96) return no(-6);
            letters.append((char) c);
            return letters.length();
        }

        int town() {
            String text = letters.toString();
            letters.setLength(0);
            for (int end = 1; end <= text.length(); end++) {
                Matcher m = TOWN.matcher(text.substring(0, end));
                if (!m.matches() && !m.hitEnd()) return -1000 - (end - 1);
            }
            if (!TOWN.matcher(text).matches()) return -1000 - text.length();
            State draft = s.copy();
            Matcher m = ONE.matcher(text);
            int statements = 0;
            while (m.find()) {
                if (!comes(draft, m.group())) return -2000 - m.start();
                statements++;
            }
            s = draft;
            return statements;
        }

        static boolean comes(State t, String text) {
            String digits = text.replaceAll("\\D", "");
            int all = Integer.parseInt(digits);
            switch (text.charAt(0)) {
                case 'b':
                    if (all / 10 > 23 || all % 10 == 0 || t.bells.size() == 6) return false;
                    t.bells.add(new Bell(all / 10, all % 10));
                    return true;
                case 'p':
                    if (t.people.size() == 8) return false;
                    t.people.add(make("pcwdlo".indexOf(text.charAt(1)), all / 100, all % 100, 0));
                    return true;
                case 'g':
                    if (all / 10 >= t.people.size()) return false;
                    t.people.get(all / 10).away = all % 10;
                    return true;
                case 's':
                    if (all / 100 >= t.people.size()) return false;
                    t.people.get(all / 100).slept = all % 100;
                    return true;
                case 'e':
                    if (all < 1 || all > 8) return false;
                    t.beds = all;
                    return true;
                default:
                    if (all < 1 || all > 60 || t.day + all > 999) return false;
                    for (int i = 0; i < all; i++) t.sleep();
                    return true;
            }
        }

        int hearers(State t, int b) {
            return bits(t.people.size(), p -> t.people.get(p).hears(t.bells.get(b)));
        }

        int bell(int b, int what) {
            if (noBell(b)) return no(-1);
            Bell bell = s.bells.get(b);
            return switch (what) {
                case 0 -> bell.hour;
                case 1 -> bell.every;
                case 2 -> hearers(s, b);
                case 3 -> s.said(bell, null);
                default -> no(-2);
            };
        }

        int person(int i, int what) {
            if (noOne(i)) return no(-1);
            Person p = s.people.get(i);
            return switch (what) {
                case 0 -> p.number();
                case 1 -> p.figure;
                case 2 -> p.slept;
                case 3 -> p.away;
                case 4 -> p.nights();
                default -> no(-2);
            };
        }

        int says(int p, int b) {
            if (noOne(p) || noBell(b)) return no(-1);
            return s.people.get(p).says(s.bells.get(b));
        }

        int goes(int p, int nights) {
            if (noOne(p)) return no(-1);
            if (nights < 0) return no(-4);
            if (nights > 9) return no(-6);
            int was = s.people.get(p).away;
            s.people.get(p).away = nights;
            return was;
        }

        int sleeps(int p, int v) {
            if (noOne(p)) return no(-1);
            if (v < 0) return no(-4);
            if (v > 99) return no(-6);
            int was = s.people.get(p).slept;
            s.people.get(p).slept = v;
            return was;
        }

        int beds(int v) {
            if (v < 1) return no(-4);
            if (v > 8) return no(-6);
            int was = s.beds;
            s.beds = v;
            return was;
        }

        int turn(int p, int kind, int figure) {
            if (noOne(p)) return no(-1);
            if (kind < 0 || kind > 5) return no(-2);
            if (figure < 0) return no(-4);
            if (figure > 9) return no(-6);
            int was = 10 * s.people.get(p).number() + s.people.get(p).figure;
            s.turn(p, kind, figure);
            return was;
        }

        int days(int n) {
            if (n < 1) return no(-4);
            if (n > 60 || s.day + n > 999) return no(-6);
            s = s.on(n);
            return s.hearSome();
        }

        int personThen(int p, int n, int what) {
            if (noOne(p)) return no(-1);
            if (n < 0) return no(-4);
            if (n > 99) return no(-6);
            if (what != 0 && what != 1) return no(-2);
            Person then = s.on(n).people.get(p);
            return what == 0 ? then.slept : then.away;
        }

        int bellThen(int b, int n, int what) {
            if (noBell(b)) return no(-1);
            if (n < 0) return no(-4);
            if (n > 99) return no(-6);
            if (what != 0 && what != 1) return no(-2);
            State t = s.on(n);
            if (what == 0) return hearers(t, b);
            return t.rings(t.bells.get(b)) ? t.said(t.bells.get(b), null) : -9;
        }

        int deafDay(int p) {
            for (int d = 0; d <= 99; d++) {
                State t = s.on(d);
                if (!t.hearsSome(t.people.get(p))) return d;
            }
            return -9;
        }

        int deaf(int p) {
            return noOne(p) ? no(-1) : deafDay(p);
        }

        int lost(int what) {
            if (what != 0 && what != 1) return no(-2);
            int which = -9;
            int when = 100;
            for (int b = 0; b < s.bells.size(); b++) {
                Bell bell = s.bells.get(b);
                int d = 0;
                while (d < 100 && s.on(d).isHeard(bell)) d++;
                if (d > 0 && d < when) {
                    which = b;
                    when = d;
                }
            }
            return what == 0 || which < 0 ? which : when;
        }

        int rings(int b, int n, int what) {
            if (noBell(b)) return no(-1);
            if (n < 1) return no(-4);
            if (n > 40) return no(-6);
            if (what != 0 && what != 1) return no(-2);
            Bell bell = s.bells.get(b);
            if (what == 0) return s.trueDays(bell, n);
            int many = 0;
            for (int d = 1; d <= n; d++) {
                State t = s.on(d);
                many += t.rings(bell) && !t.isHeard(bell) ? 1 : 0;
            }
            return many;
        }

        State sent(int bits, int k) {
            State t = s.copy();
            for (int p = 0; p < t.people.size(); p++) {
                if ((bits >> p & 1) == 1) t.people.get(p).away = k;
            }
            return t;
        }

        int send(int b, int k, int n) {
            if (noBell(b)) return no(-1);
            if (k < 1 || n < 1) return no(-4);
            if (k > 9 || n > 40) return no(-6);
            Bell bell = s.bells.get(b);
            return best(0, s.people.size() - 1, s.trueDays(bell, n), (p, x) -> sent(1 << p, k).trueDays(bell, n));
        }

        int nightsFor(int p, int n) {
            if (noOne(p)) return no(-1);
            if (n < 1) return no(-4);
            if (n > 40) return no(-6);
            return best(1, 9, s.trueDaysOfAll(n), (k, x) -> sent(1 << p, k).trueDaysOfAll(n));
        }

        int fewest(int n) {
            if (n < 0) return no(-4);
            if (n > 40) return no(-6);
            return best(0, (1 << s.people.size()) - 1, 0,
                    (bits, x) -> sent(bits, 5).on(n).allHeard() ? 9 - Integer.bitCount(bits) : 0);
        }

        int ask(int b) {
            if (noBell(b)) return no(-1);
            Bell bell = s.bells.get(b);
            return best(0, s.people.size() - 1, 0, (p, x) -> {
                if (s.people.get(p).says(bell) != bell.hour) return 0;
                int d = 1;
                while (d < 100 && s.on(d).people.get(p).hears(bell)) d++;
                return d;
            });
        }

        int leave() {
            return best(0, s.people.size() - 1, s.rightWithout(null), (p, x) -> s.rightWithout(s.people.get(p)));
        }

        int right(int what) {
            switch (what) {
                case 0:
                    return s.rightWithout(null);
                case 1:
                    return (int) s.bells.stream().filter(b -> s.isHeard(b) && !s.isRight(b)).count();
                case 2:
                    return best(0, s.people.size() - 1, 0, (p, x) -> deafDay(p) < 0 ? 100 : deafDay(p));
                default:
                    return no(-2);
            }
        }

        int clash(int what) {
            if (what != 0 && what != 1) return no(-2);
            List<Integer> twos = new ArrayList<>();
            for (int i = 0; i < s.people.size(); i++) {
                for (int j = i + 1; j < s.people.size(); j++) {
                    if (s.clash(i, j)) twos.add(10 * i + j);
                }
            }
            if (what == 0) return twos.size();
            return twos.isEmpty() ? -9 : twos.get(0);
        }

        boolean isAgreed(int bits) {
            for (int i = 0; i < s.people.size(); i++) {
                if ((bits >> i & 1) == 1 && !s.hearsSome(s.people.get(i))) return false;
                for (int j = 0; j < i; j++) {
                    if ((bits >> i & 1) == 1 && (bits >> j & 1) == 1 && s.clash(j, i)) return false;
                }
            }
            return true;
        }

        int agreed(int what) {
            if (what != 0 && what != 1) return no(-2);
            int bits = best(0, (1 << s.people.size()) - 1, -1, (who, x) -> isAgreed(who) ? Integer.bitCount(who) : -1);
            return what == 0 ? Integer.bitCount(bits) : bits;
        }

        int hours(int what) {
            if (what != 0 && what != 1) return no(-2);
            if (what == 1) return bits(s.bells.size(), b -> !s.isHeard(s.bells.get(b)));
            return bits(24, h -> s.bells.stream().anyMatch(b -> s.people.stream().anyMatch(p -> p.says(b) == h)));
        }

        int bedsFor(int n) {
            if (n < 0) return no(-4);
            if (n > 40) return no(-6);
            return best(1, 8, 0, (beds, x) -> {
                State t = s.copy();
                t.beds = beds;
                return t.on(n).allHeard() ? 1 : 0;
            });
        }

        int next(int b) {
            if (noBell(b)) return no(-1);
            return best(1, 9, 0, (d, x) -> (s.day + d) % s.bells.get(b).every == 0 ? 1 : 0);
        }

        int together() {
            if (s.bells.isEmpty()) return -9;
            return best(1, 99, 0, (d, x) -> s.bells.stream().allMatch(b -> (s.day + d) % b.every == 0) ? 1 : 0);
        }

        int daysHeard(State t, int p, Bell bell) {
            int many = 0;
            for (int d = 1; d <= 20; d++) {
                many += t.on(d).people.get(p).hears(bell) ? 1 : 0;
            }
            return many;
        }

        int cost(int p, int k, int b) {
            if (noOne(p) || noBell(b)) return 1000000000 - no(-1);
            if (k < 1) return 1000000000 - no(-4);
            if (k > 9) return 1000000000 - no(-6);
            Bell bell = s.bells.get(b);
            return daysHeard(s, p, bell) - daysHeard(sent(1 << p, k), p, bell);
        }

        int outcome(int a, int lieA, int b, int lieB, int n) {
            State t = s.copy();
            if (lieA == 1) t.turn(a, 4, 5);
            if (lieB == 1) t.turn(b, 4, 5);
            return t.trueDaysOfAll(n);
        }

        int two(int a, int b, int n) {
            if (noOne(a) || noOne(b) || a == b) return no(-1);
            if (n < 1) return no(-4);
            if (n > 20) return no(-6);
            for (int i = 0; i < 2; i++) {
                for (int j = 0; j < 2; j++) {
                    int it = outcome(a, i, b, j, n);
                    boolean firstHasBetter = outcome(a, 1 - i, b, j, n) > it;
                    boolean otherHasBetter = outcome(a, i, b, 1 - j, n) < it;
                    if (!firstHasBetter && !otherHasBetter) return 10 * i + j;
                }
            }
            return -9;
        }

        static long part(long above, long below, int part) {
            for (long d = 2; d <= Math.min(below, 1000); d++) {
                while (above % d == 0 && below % d == 0) {
                    above /= d;
                    below /= d;
                }
            }
            return part == 0 ? above : below;
        }

        long fog(int b, int n, int t, int part) {
            long refused = 4000000000000000000L;
            if (noBell(b)) return refused - no(-1);
            if (n < 0 || t < 2) return refused - no(-4);
            if (n > 7 || t > 20) return refused - no(-6);
            if (part != 0 && part != 1) return refused - no(-2);
            long above = 0;
            long below = 1;
            for (int d = 0; d < n; d++) below *= t;
            for (int foggy = 0; foggy < 1 << n; foggy++) {
                State then = s.copy();
                long weight = 1;
                for (int d = 0; d < n; d++) {
                    if ((foggy >> d & 1) == 0) {
                        then.sleep();
                        weight *= t - 1;
                    }
                }
                above += then.isHeard(s.bells.get(b)) ? weight : 0;
            }
            return part(above, below, part);
        }

        long mean(int part) {
            if (part != 0 && part != 1) return 4000000000000000000L - no(-2);
            return s.people.isEmpty() ? part : part(s.slept(), s.people.size(), part);
        }

        boolean fits(int p, int b, int kind, int figure) {
            State t = s.copy();
            t.turn(p, kind, figure);
            for (int d = 0; d < row.size(); d++) {
                int word = t.on(d).people.get(p).says(s.bells.get(b));
                if ((word == -9 ? 99 : word) != row.get(d)) return false;
            }
            return true;
        }

        int whatIs(int p, int b, int what) {
            if (noOne(p) || noBell(b)) return no(-1);
            if (what != 0 && what != 1) return no(-2);
            Person one = s.people.get(p);
            return what == 0
                    ? bits(6, kind -> fits(p, b, kind, one.figure))
                    : bits(10, figure -> fits(p, b, one.number(), figure));
        }

        int row(int v) {
            if (v < 0) return no(-4);
            if (v > 99 || row.size() == 16) return no(-6);
            row.add(v);
            return row.size();
        }

        int judge() {
            int answer = best(0, row.size() - 1, 0, (d, x) -> s.on(d).hearSome() != row.get(d) ? 1 : 0);
            row.clear();
            return answer;
        }

        int clear() {
            int had = row.size();
            row.clear();
            return had;
        }

        int lots(int n, int z, int what) {
            if (n < 1) return no(-4);
            if (n > 20) return no(-6);
            if (what != 0 && what != 1) return no(-2);
            int sum = 0;
            for (int i = 0; i < n; i++) {
                State t = s.copy();
                for (Person p : t.people) {
                    z = (int) (z * 1664525L + 1013904223L);
                    p.slept = (int) (z & 0x7fffffffL) / 256 % 20;
                }
                t = t.on(10);
                sum += what == 0 ? t.hearSome() : t.slept();
            }
            return sum;
        }

        int image() {
            image = s.copy();
            return s.day;
        }

        int on() {
            if (image == null) return no(-3);
            s = image.copy();
            return s.day;
        }

        int count(int what) {
            return switch (what) {
                case 0 -> s.bells.size();
                case 1 -> s.people.size();
                case 2 -> s.day;
                case 3 -> s.beds;
                case 4 -> s.hearSome();
                case 5 -> s.slept();
                case 6 -> row.size();
                case 7 -> letters.length();
                case 11, 12, 13, 14, 15, 16 -> refusals[what - 10];
                default -> -9;
            };
        }
    }

    // ---- drawn runs ----

    static final class Run {
        final int number;
        final OnlyStrangersHear x = new OnlyStrangersHear();
        final Model m = new Model();
        final StringBuilder told = new StringBuilder();
        long seed;
        int calls = 0;

        Run(int number) {
            this.number = number;
            seed = number * 7919L + 12345;
        }

        int below(int n) {
            seed = seed * 6364136223846793005L + 1442695040888963407L;
            return (int) ((seed >>> 33) % n);
        }

        /** Mostly within the bounds, else just beyond or far off. */
        int number(int least, int greatest) {
            int luck = below(60);
            if (luck == 0) return least - 1;
            if (luck == 1) return greatest + 1;
            if (luck == 2) return below(2) == 0 ? Integer.MIN_VALUE : Integer.MAX_VALUE;
            if (luck < 8) return least;
            if (luck < 14) return greatest;
            return least + below(greatest - least + 1);
        }

        int someone() {
            return number(0, Math.max(0, m.s.people.size() - 1));
        }

        int someBell() {
            return number(0, Math.max(0, m.s.bells.size() - 1));
        }

        void same(String call, long got, long want) {
            calls++;
            told.append(' ').append(call);
            if (got != want && wrong < 20) {
                wrong++;
                System.out.println("run " + number + ": " + call + " answered " + got + ", the model " + want + " behind" + told);
            }
        }

        void go() {
            int start = below(5);
            if (start > 0) tell(drawTown(start > 1));
            while (calls < 400 && wrong < 20) {
                if (below(12) == 0 && calls < 300) {
                    tell(below(4) == 0 ? spoil(drawTown(false)) : drawTown(below(2) == 0));
                } else {
                    one(below(46));
                }
                if (below(10) == 0) counts();
            }
            counts();
        }

        void counts() {
            for (int what = -1; what <= 18; what++) {
                same("count(" + what + ")", x.count(what), m.count(what));
            }
        }

        void tell(String text) {
            for (int i = 0; i < text.length(); i++) {
                int c = text.charAt(i);
                same("letter(" + c + ")", x.letter(c), m.letter(c));
            }
            same("town()", x.town(), m.town());
        }

        String two(int n) {
            return n / 10 + "" + n % 10;
        }

        String drawTown(boolean isLarge) {
            StringBuilder text = new StringBuilder();
            int statements = 1 + below(isLarge ? 17 : 4);
            for (int i = 0; i < statements; i++) {
                String one = drawStatement();
                if (text.length() + one.length() <= 96) text.append(one);
            }
            return text.toString();
        }

        String drawStatement() {
            switch (below(isYoung() ? 5 : 9)) {
                case 0:
                case 1:
                    return "b" + two(below(3) == 0 ? 4 : below(20) == 0 ? 23 + below(3) : below(24)) + (below(20) == 0 ? 0 : 1 + below(9)) + ";";
                case 2:
                case 3:
                case 4:
                    return "p" + "pcwdlo".charAt(below(6)) + below(10) + two(below(3) == 0 ? below(100) : below(20)) + ";";
                case 5:
                    return "g" + below(4) + below(10) + ";";
                case 6:
                    return "s" + below(4) + two(below(30)) + ";";
                case 7:
                    return "e" + (below(10) == 0 ? below(10) : 1 + below(8)) + ";";
                default:
                    return "d" + two(below(10) == 0 ? below(100) : 1 + below(9)) + ";";
            }
        }

        boolean isYoung() {
            return m.s.people.size() < 2 && below(4) > 0;
        }

        String spoil(String text) {
            int place = below(text.length());
            switch (below(4)) {
                case 0:
                    return text.substring(0, place);
                case 1:
                    return text.substring(0, place) + (char) below(256) + text.substring(place + 1);
                case 2:
                    return text.substring(0, place) + text.substring(place + 1);
                default:
                    return text.substring(0, place) + "bpgsed;0x9".charAt(below(10)) + text.substring(place);
            }
        }

        void one(int which) {
            int what2 = number(0, 1);
            int p = someone();
            int b = someBell();
            switch (which) {
                case 0 -> { int c = number(0, 255); same("letter(" + c + ")", x.letter(c), m.letter(c)); }
                case 1 -> same("town()", x.town(), m.town());
                case 2, 3 -> { int w = number(0, 3); same("bell(" + b + ", " + w + ")", x.bell(b, w), m.bell(b, w)); }
                case 4 -> { int w = number(0, 4); same("person(" + p + ", " + w + ")", x.person(p, w), m.person(p, w)); }
                case 5 -> same("says(" + p + ", " + b + ")", x.says(p, b), m.says(p, b));
                case 6 -> { int k = number(0, 9); same("goes(" + p + ", " + k + ")", x.goes(p, k), m.goes(p, k)); }
                case 7, 8 -> { int v = below(3) == 0 ? number(0, 99) : below(25); same("sleeps(" + p + ", " + v + ")", x.sleeps(p, v), m.sleeps(p, v)); }
                case 9 -> { int v = number(1, 8); same("beds(" + v + ")", x.beds(v), m.beds(v)); }
                case 10, 11 -> { int k = number(0, 5); int f = number(0, 9); same("turn(" + p + ", " + k + ", " + f + ")", x.turn(p, k, f), m.turn(p, k, f)); }
                case 12 -> { int n = below(8) == 0 ? number(1, 60) : number(1, 4); same("days(" + n + ")", x.days(n), m.days(n)); }
                case 13 -> { int n = number(0, 99); same("personThen(" + p + ", " + n + ", " + what2 + ")", x.personThen(p, n, what2), m.personThen(p, n, what2)); }
                case 14 -> { int n = number(0, 99); same("bellThen(" + b + ", " + n + ", " + what2 + ")", x.bellThen(b, n, what2), m.bellThen(b, n, what2)); }
                case 15 -> same("deaf(" + p + ")", x.deaf(p), m.deaf(p));
                case 16 -> same("lost(" + what2 + ")", x.lost(what2), m.lost(what2));
                case 17 -> { int n = number(1, 40); same("rings(" + b + ", " + n + ", " + what2 + ")", x.rings(b, n, what2), m.rings(b, n, what2)); }
                case 18, 19 -> { int k = number(1, 9); int n = number(1, 40); same("send(" + b + ", " + k + ", " + n + ")", x.send(b, k, n), m.send(b, k, n)); }
                case 20 -> { int n = number(1, 40); same("nightsFor(" + p + ", " + n + ")", x.nightsFor(p, n), m.nightsFor(p, n)); }
                case 21 -> { int n = number(0, 40); same("fewest(" + n + ")", x.fewest(n), m.fewest(n)); }
                case 22 -> same("ask(" + b + ")", x.ask(b), m.ask(b));
                case 23 -> same("leave()", x.leave(), m.leave());
                case 24 -> { int w = number(0, 2); same("right(" + w + ")", x.right(w), m.right(w)); }
                case 25 -> same("clash(" + what2 + ")", x.clash(what2), m.clash(what2));
                case 26 -> same("agreed(" + what2 + ")", x.agreed(what2), m.agreed(what2));
                case 27 -> same("hours(" + what2 + ")", x.hours(what2), m.hours(what2));
                case 28 -> { int n = number(0, 40); same("bedsFor(" + n + ")", x.bedsFor(n), m.bedsFor(n)); }
                case 29 -> same("next(" + b + ")", x.next(b), m.next(b));
                case 30 -> same("together()", x.together(), m.together());
                case 31 -> { int k = number(1, 9); same("cost(" + p + ", " + k + ", " + b + ")", x.cost(p, k, b), m.cost(p, k, b)); }
                case 32, 33 -> { int q = someone(); int n = number(1, 20); same("two(" + p + ", " + q + ", " + n + ")", x.two(p, q, n), m.two(p, q, n)); }
                case 34, 35 -> { int n = number(0, 7); int t = number(2, 20); same("fog(" + b + ", " + n + ", " + t + ", " + what2 + ")", x.fog(b, n, t, what2), m.fog(b, n, t, what2)); }
                case 36 -> same("mean(" + what2 + ")", x.mean(what2), m.mean(what2));
                case 37 -> whatIs(p, b, what2);
                case 38 -> { int v = number(0, 99); same("row(" + v + ")", x.row(v), m.row(v)); }
                case 39, 40 -> judge();
                case 41 -> same("clear()", x.clear(), m.clear());
                case 42 -> { int n = number(1, 20); int z = below(Integer.MAX_VALUE) * (1 - below(3)); same("lots(" + n + ", " + z + ", " + what2 + ")", x.lots(n, z, what2), m.lots(n, z, what2)); }
                case 43 -> { if (below(3) == 0) same("image()", x.image(), m.image()); }
                case 44 -> { if (below(3) == 0) same("on()", x.on(), m.on()); }
                default -> { int w = number(0, 16); same("count(" + w + ")", x.count(w), m.count(w)); }
            }
        }

        /** A drawn row would hardly ever fit, so most rows tell what is so of some kind and figure. */
        void whatIs(int p, int b, int what) {
            if (below(5) > 0 && !m.noOne(p) && !m.noBell(b)) {
                same("clear()", x.clear(), m.clear());
                State t = m.s.copy();
                Person one = t.people.get(p);
                int kind = what == 0 ? below(6) : one.number();
                int figure = what == 0 ? one.figure : below(10);
                t.turn(p, kind, figure);
                int many = below(17);
                for (int d = 0; d < many; d++) {
                    int word = t.on(d).people.get(p).says(t.bells.get(b));
                    int v = word == -9 ? 99 : word;
                    same("row(" + v + ")", x.row(v), m.row(v));
                }
            }
            same("whatIs(" + p + ", " + b + ", " + what + ")", x.whatIs(p, b, what), m.whatIs(p, b, what));
        }

        void judge() {
            if (below(3) > 0) {
                same("clear()", x.clear(), m.clear());
                int many = below(17);
                int off = below(3) == 0 ? below(17) : -1;
                for (int d = 0; d < many; d++) {
                    int v = m.s.on(d).hearSome() + (d == off ? 1 : 0);
                    same("row(" + v + ")", x.row(v), m.row(v));
                }
            }
            same("judge()", x.judge(), m.judge());
            same("count(6)", x.count(6), m.count(6));
        }
    }
}
