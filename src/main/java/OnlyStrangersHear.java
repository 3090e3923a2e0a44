/** A town whose bells only strangers hear; ../shared/DOC.md tells what every call answers. */
public final class OnlyStrangersHear {
    private static final int NONE = -9;

    private static final int FINE = 0;
    private static final int NOBODY = -1;
    private static final int OTHER = -2;
    private static final int STATE = -3;
    private static final int BELOW = -4;
    private static final int ROOM = -6;
    private static final int REFUSAL_KINDS = 6;

    private static final int COST_REFUSED = 1000000000;
    private static final long LONG_REFUSED = 4000000000000000000L;

    private static final int FORM_FAULT = -1000;
    private static final int SENSE_FAULT = -2000;

    private static final int MOST_BELLS = 6;
    private static final int MOST_PEOPLE = 8;
    private static final int MOST_BEDS = 8;
    private static final int MOST_AWAY = 9;
    private static final int MOST_SLEPT = 99;
    private static final int MOST_FIGURE = 9;
    private static final int MOST_DAY = 999;
    private static final int MOST_DAYS_AT_ONCE = 60;
    private static final int MOST_THOUGHT = 99;
    private static final int MOST_PLANNED = 40;
    private static final int MOST_LETTERS = 96;
    private static final int MOST_LETTER = 255;
    private static final int MOST_NUMBERS = 16;
    private static final int MOST_NUMBER = 99;
    private static final int MOST_TOWNS = 20;
    private static final int MOST_DUEL_DAYS = 20;
    private static final int MOST_FOG_DAYS = 7;
    private static final int LEAST_ODDS = 2;
    private static final int MOST_ODDS = 20;

    private static final int DAY_HOURS = 24;
    private static final int PERSON_NIGHTS = 9;
    private static final int OLD_HOUR = 4;
    private static final int SENT_NIGHTS = 5;
    private static final int COST_DAYS = 20;
    private static final int LIE = 5;
    private static final int LOT_SLEPT = 20;
    private static final int LOT_DAYS = 10;

    private static final int CHILD = 1;
    private static final int WANDERER = 2;
    private static final int DANE = 3;
    private static final int LIAR = 4;
    private static final int OLD = 5;
    private static final int KINDS = 6;
    private static final String KIND_LETTERS = "pcwdlo";

    private final Town now;
    private final Town kept;
    private boolean isKept;
    private final Letters letters;
    private final Numbers numbers;
    private final Voices voices;
    private final Mind mind;
    private final Plans plans;
    private final int[] refusals;

    public OnlyStrangersHear() {
        now = new Town();
        kept = new Town();
        letters = new Letters();
        numbers = new Numbers();
        voices = new Voices();
        mind = new Mind();
        plans = new Plans();
        refusals = new int[REFUSAL_KINDS + 1];
    }

    public int letter(int c) {
        int no = first(range(c, 0, MOST_LETTER), letters.told < MOST_LETTERS ? FINE : ROOM);
        if (no != FINE) {
            return refused(no);
        }
        letters.add(c);
        return letters.told;
    }

    public int town() {
        int answer = letters.tell(now);
        letters.forget();
        return answer;
    }

    public int bell(int bell, int what) {
        int no = first(noBell(bell), choice(what, 4));
        if (no != FINE) {
            return refused(no);
        }
        switch (what) {
            case 0:
                return now.hour[bell];
            case 1:
                return now.every[bell];
            case 2:
                return now.hearersOf(bell);
            default:
                return now.saidOf(bell, now.hearersOf(bell));
        }
    }

    public int person(int person, int what) {
        int no = first(noPerson(person), choice(what, 5));
        if (no != FINE) {
            return refused(no);
        }
        switch (what) {
            case 0:
                return now.kind[person];
            case 1:
                return now.figure[person];
            case 2:
                return now.slept[person];
            case 3:
                return now.away[person];
            default:
                return now.nightsOf(person);
        }
    }

    public int says(int person, int bell) {
        int no = first(noPerson(person), noBell(bell));
        if (no != FINE) {
            return refused(no);
        }
        return now.hearsIt(person, bell) ? now.hourBy(person, bell) : NONE;
    }

    public int goes(int person, int nights) {
        int no = first(noPerson(person), range(nights, 0, MOST_AWAY));
        if (no != FINE) {
            return refused(no);
        }
        int before = now.away[person];
        now.away[person] = nights;
        return before;
    }

    public int sleeps(int person, int v) {
        int no = first(noPerson(person), range(v, 0, MOST_SLEPT));
        if (no != FINE) {
            return refused(no);
        }
        int before = now.slept[person];
        now.slept[person] = v;
        return before;
    }

    public int beds(int v) {
        int no = range(v, 1, MOST_BEDS);
        if (no != FINE) {
            return refused(no);
        }
        int before = now.bedCount;
        now.bedCount = v;
        return before;
    }

    public int turn(int person, int kind, int figure) {
        int no = first(noPerson(person), choice(kind, KINDS));
        no = first(no, range(figure, 0, MOST_FIGURE));
        if (no != FINE) {
            return refused(no);
        }
        int before = 10 * now.kind[person] + now.figure[person];
        now.makeKind(person, kind, figure);
        return before;
    }

    public int days(int n) {
        int no = range(n, 1, MOST_DAYS_AT_ONCE);
        no = first(no, n <= MOST_DAY - now.day ? FINE : ROOM);
        if (no != FINE) {
            return refused(no);
        }
        now.pass(n);
        return Integer.bitCount(now.hearersOfSome());
    }

    public int personThen(int person, int n, int what) {
        int no = first(noPerson(person), range(n, 0, MOST_THOUGHT));
        no = first(no, choice(what, 2));
        if (no != FINE) {
            return refused(no);
        }
        Town then = mind.after(now, n);
        return what == 0 ? then.slept[person] : then.away[person];
    }

    public int bellThen(int bell, int n, int what) {
        int no = first(noBell(bell), range(n, 0, MOST_THOUGHT));
        no = first(no, choice(what, 2));
        if (no != FINE) {
            return refused(no);
        }
        Town then = mind.after(now, n);
        int who = then.hearersOf(bell);
        if (what == 0) {
            return who;
        }
        return then.isRinging(bell) ? then.saidOf(bell, who) : NONE;
    }

    public int deaf(int person) {
        int no = noPerson(person);
        if (no != FINE) {
            return refused(no);
        }
        return mind.deafAfter(now, person);
    }

    public int lost(int what) {
        int no = choice(what, 2);
        if (no != FINE) {
            return refused(no);
        }
        return mind.firstLost(now, what == 0);
    }

    public int rings(int bell, int n, int what) {
        int no = first(noBell(bell), range(n, 1, MOST_PLANNED));
        no = first(no, choice(what, 2));
        if (no != FINE) {
            return refused(no);
        }
        return what == 0 ? mind.rightDays(now, bell, n) : mind.unheardDays(now, bell, n);
    }

    public int send(int bell, int k, int n) {
        int no = first(noBell(bell), bothRanges(k, MOST_AWAY, n, MOST_PLANNED));
        if (no != FINE) {
            return refused(no);
        }
        return plans.whomToSend(now, bell, k, n);
    }

    public int nightsFor(int person, int n) {
        int no = first(noPerson(person), range(n, 1, MOST_PLANNED));
        if (no != FINE) {
            return refused(no);
        }
        return plans.bestNights(now, person, n);
    }

    public int fewest(int n) {
        int no = range(n, 0, MOST_PLANNED);
        if (no != FINE) {
            return refused(no);
        }
        return plans.fewestToSend(now, n);
    }

    public int ask(int bell) {
        int no = noBell(bell);
        if (no != FINE) {
            return refused(no);
        }
        return mind.longestRight(now, bell);
    }

    public int leave() {
        return voices.whomToLeaveOut(now);
    }

    public int right(int what) {
        int no = choice(what, 3);
        if (no != FINE) {
            return refused(no);
        }
        switch (what) {
            case 0:
                return voices.rightBells(now, NONE);
            case 1:
                return voices.wrongBells(now);
            default:
                return mind.lastDeaf(now);
        }
    }

    public int clash(int what) {
        int no = choice(what, 2);
        if (no != FINE) {
            return refused(no);
        }
        return what == 0 ? voices.clashes(now) : voices.firstClash(now);
    }

    public int agreed(int what) {
        int no = choice(what, 2);
        if (no != FINE) {
            return refused(no);
        }
        int who = voices.mostAgreed(now);
        return what == 0 ? Integer.bitCount(who) : who;
    }

    public int hours(int what) {
        int no = choice(what, 2);
        if (no != FINE) {
            return refused(no);
        }
        return what == 0 ? voices.hoursSaid(now) : now.silentBells();
    }

    public int bedsFor(int n) {
        int no = range(n, 0, MOST_PLANNED);
        if (no != FINE) {
            return refused(no);
        }
        return plans.fewestBeds(now, n);
    }

    public int next(int bell) {
        int no = noBell(bell);
        if (no != FINE) {
            return refused(no);
        }
        return now.daysTillRinging(bell);
    }

    public int together() {
        return now.daysTillAllRing();
    }

    public int cost(int person, int k, int bell) {
        int no = first(noPerson(person), noBell(bell));
        no = first(no, range(k, 1, MOST_AWAY));
        if (no != FINE) {
            return COST_REFUSED - refused(no);
        }
        return plans.daysUnheardBySending(now, person, k, bell);
    }

    public int two(int a, int b, int n) {
        int no = first(noPerson(a), noPerson(b));
        no = first(no, a == b ? NOBODY : FINE);
        no = first(no, range(n, 1, MOST_DUEL_DAYS));
        if (no != FINE) {
            return refused(no);
        }
        return plans.settledPair(now, a, b, n);
    }

    public long fog(int bell, int n, int t, int part) {
        int no = first(noBell(bell), n < 0 || t < LEAST_ODDS ? BELOW : FINE);
        no = first(no, n > MOST_FOG_DAYS || t > MOST_ODDS ? ROOM : FINE);
        no = first(no, choice(part, 2));
        if (no != FINE) {
            return LONG_REFUSED - refused(no);
        }
        return partOf(mind.clearWays(now, bell, n, t), power(t, n), part);
    }

    public long mean(int part) {
        int no = choice(part, 2);
        if (no != FINE) {
            return LONG_REFUSED - refused(no);
        }
        return partOf(now.allSlept(), Math.max(1, now.people), part);
    }

    public int whatIs(int person, int bell, int what) {
        int no = first(noPerson(person), noBell(bell));
        no = first(no, choice(what, 2));
        if (no != FINE) {
            return refused(no);
        }
        return what == 0
                ? mind.kindsBy(now, person, bell, numbers)
                : mind.figuresBy(now, person, bell, numbers);
    }

    public int row(int v) {
        int no = first(range(v, 0, MOST_NUMBER), numbers.size < MOST_NUMBERS ? FINE : ROOM);
        if (no != FINE) {
            return refused(no);
        }
        numbers.add(v);
        return numbers.size;
    }

    public int judge() {
        int answer = mind.firstUntrue(now, numbers);
        numbers.forget();
        return answer;
    }

    public int clear() {
        int before = numbers.size;
        numbers.forget();
        return before;
    }

    public int lots(int n, int z, int what) {
        int no = first(range(n, 1, MOST_TOWNS), choice(what, 2));
        if (no != FINE) {
            return refused(no);
        }
        return mind.townsByLot(now, n, z, what == 0);
    }

    public int image() {
        kept.become(now);
        isKept = true;
        return now.day;
    }

    public int on() {
        if (!isKept) {
            return refused(STATE);
        }
        now.become(kept);
        return now.day;
    }

    public int count(int what) {
        switch (what) {
            case 0:
                return now.bells;
            case 1:
                return now.people;
            case 2:
                return now.day;
            case 3:
                return now.bedCount;
            case 4:
                return Integer.bitCount(now.hearersOfSome());
            case 5:
                return now.allSlept();
            case 6:
                return numbers.size;
            case 7:
                return letters.told;
            default:
                return what > 10 && what <= 10 + REFUSAL_KINDS ? refusals[what - 10] : NONE;
        }
    }

    private int noBell(int bell) {
        return bell >= 0 && bell < now.bells ? FINE : NOBODY;
    }

    private int noPerson(int person) {
        return person >= 0 && person < now.people ? FINE : NOBODY;
    }

    private static int choice(int what, int choices) {
        return what >= 0 && what < choices ? FINE : OTHER;
    }

    private static int range(int v, int least, int greatest) {
        if (v < least) {
            return BELOW;
        }
        return v > greatest ? ROOM : FINE;
    }

    private static int bothRanges(int a, int greatestA, int b, int greatestB) {
        if (a < 1 || b < 1) {
            return BELOW;
        }
        return a > greatestA || b > greatestB ? ROOM : FINE;
    }

    private static int first(int no, int later) {
        return no != FINE ? no : later;
    }

    private int refused(int no) {
        if (no < 0 && no >= -REFUSAL_KINDS) {
            refusals[-no]++;
        }
        return no;
    }

    private static long power(int base, int times) {
        long product = 1;
        for (int i = 0; i < times; i++) {
            product *= base;
        }
        return product;
    }

    private static long partOf(long above, long below, int part) {
        long common = commonDivisor(above, below);
        if (common < 1) {
            return 0;
        }
        return part == 0 ? above / common : below / common;
    }

    private static long commonDivisor(long a, long b) {
        long greater = a;
        long lesser = b;
        for (int i = 0; i < 100 && lesser != 0; i++) {
            long rest = greater % lesser;
            greater = lesser;
            lesser = rest;
        }
        return greater;
    }

    private static int leastBit(int bits) {
        for (int i = 0; i < MOST_PEOPLE; i++) {
            if ((bits >> i & 1) != 0) {
                return i;
            }
        }
        return NONE;
    }

    /** The state of a town; one is real, others stand for the image and for what is thought. */
    private static final class Town {
        int bells;
        final int[] hour;
        final int[] every;
        int people;
        final int[] kind;
        final int[] figure;
        final int[] slept;
        final int[] away;
        int day;
        int bedCount;

        Town() {
            hour = new int[MOST_BELLS];
            every = new int[MOST_BELLS];
            kind = new int[MOST_PEOPLE];
            figure = new int[MOST_PEOPLE];
            slept = new int[MOST_PEOPLE];
            away = new int[MOST_PEOPLE];
            bedCount = MOST_BEDS;
        }

        void become(Town other) {
            bells = other.bells;
            System.arraycopy(other.hour, 0, hour, 0, MOST_BELLS);
            System.arraycopy(other.every, 0, every, 0, MOST_BELLS);
            people = other.people;
            System.arraycopy(other.kind, 0, kind, 0, MOST_PEOPLE);
            System.arraycopy(other.figure, 0, figure, 0, MOST_PEOPLE);
            System.arraycopy(other.slept, 0, slept, 0, MOST_PEOPLE);
            System.arraycopy(other.away, 0, away, 0, MOST_PEOPLE);
            day = other.day;
            bedCount = other.bedCount;
        }

        boolean addBell(int hourOfIt, int everyOfIt) {
            if (bells >= MOST_BELLS || hourOfIt >= DAY_HOURS || everyOfIt < 1) {
                return false;
            }
            hour[bells] = hourOfIt;
            every[bells] = everyOfIt;
            bells++;
            return true;
        }

        boolean addPerson(int kindOfHim, int figureOfHim, int sleptOfHim) {
            if (people >= MOST_PEOPLE) {
                return false;
            }
            kind[people] = kindOfHim;
            figure[people] = figureOfHim;
            slept[people] = sleptOfHim;
            away[people] = 0;
            people++;
            return true;
        }

        void makeKind(int p, int kindOfHim, int figureOfHim) {
            kind[p] = kindOfHim;
            figure[p] = figureOfHim;
        }

        /** While the same people are away every day is alike, so such days are passed at once. */
        void pass(int n) {
            int left = n;
            for (int i = 0; i < n && left > 0; i++) {
                int alike = daysTillReturn(left);
                passAlike(alike);
                left -= alike;
            }
        }

        private int daysTillReturn(int most) {
            int least = most;
            for (int p = 0; p < people; p++) {
                if (away[p] > 0 && away[p] < least) {
                    least = away[p];
                }
            }
            return least;
        }

        private void passAlike(int n) {
            day += n;
            int free = bedCount;
            for (int p = 0; p < people; p++) {
                if (away[p] > 0) {
                    slept[p] = Math.max(0, slept[p] - 2 * n);
                    away[p] -= n;
                } else if (free > 0) {
                    slept[p] = Math.min(MOST_SLEPT, slept[p] + n);
                    free--;
                } else {
                    slept[p] = Math.max(0, slept[p] - n);
                }
            }
        }

        int nightsOf(int p) {
            switch (kind[p]) {
                case CHILD:
                case OLD:
                    return 0;
                case WANDERER:
                    return PERSON_NIGHTS + figure[p];
                case DANE:
                    return 2 * (PERSON_NIGHTS + figure[p]);
                default:
                    return PERSON_NIGHTS;
            }
        }

        int hoursLater(int p) {
            switch (kind[p]) {
                case DANE:
                    return 1;
                case LIAR:
                    return figure[p];
                default:
                    return 0;
            }
        }

        boolean hearsIt(int p, int b) {
            if (away[p] > 0) {
                return false;
            }
            return slept[p] < nightsOf(p) || kind[p] == OLD && hour[b] == OLD_HOUR;
        }

        int hourBy(int p, int b) {
            return (hour[b] + hoursLater(p)) % DAY_HOURS;
        }

        boolean hearsSome(int p) {
            for (int b = 0; b < bells; b++) {
                if (hearsIt(p, b)) {
                    return true;
                }
            }
            return false;
        }

        int hearersOfSome() {
            int who = 0;
            for (int p = 0; p < people; p++) {
                if (hearsSome(p)) {
                    who |= 1 << p;
                }
            }
            return who;
        }

        int hearersOf(int b) {
            int who = 0;
            for (int p = 0; p < people; p++) {
                if (hearsIt(p, b)) {
                    who |= 1 << p;
                }
            }
            return who;
        }

        int silentBells() {
            int silent = 0;
            for (int b = 0; b < bells; b++) {
                if (hearersOf(b) == 0) {
                    silent |= 1 << b;
                }
            }
            return silent;
        }

        /** Four bits a lateness hold its voices: there are at most eight, and nobody is ten late. */
        int saidOf(int b, int who) {
            long voices = 0;
            for (int p = 0; p < people; p++) {
                if ((who >> p & 1) != 0) {
                    voices += 1L << 4 * hoursLater(p);
                }
            }
            int said = NONE;
            int most = 0;
            for (int late = 0; late <= MOST_FIGURE; late++) {
                int many = (int) (voices >> 4 * late) & 15;
                int itsHour = (hour[b] + late) % DAY_HOURS;
                if (many > most || many == most && itsHour < said) {
                    most = many;
                    said = itsHour;
                }
            }
            return said;
        }

        boolean isRinging(int b) {
            return every[b] > 0 && day % every[b] == 0;
        }

        int passCountingRight(int fromBell, int toBell, int n) {
            int many = 0;
            for (int d = 1; d <= n; d++) {
                pass(1);
                for (int b = fromBell; b < toBell; b++) {
                    if (isRinging(b) && saidOf(b, hearersOf(b)) == hour[b]) {
                        many++;
                    }
                }
            }
            return many;
        }

        int daysTillRinging(int b) {
            return every[b] > 0 ? every[b] - day % every[b] : NONE;
        }

        int daysTillAllRing() {
            if (bells == 0) {
                return NONE;
            }
            for (int d = 1; d <= MOST_THOUGHT; d++) {
                if (allRingOn(day + d)) {
                    return d;
                }
            }
            return NONE;
        }

        private boolean allRingOn(int then) {
            for (int b = 0; b < bells; b++) {
                if (every[b] < 1 || then % every[b] != 0) {
                    return false;
                }
            }
            return true;
        }

        int allSlept() {
            int sum = 0;
            for (int p = 0; p < people; p++) {
                sum += slept[p];
            }
            return sum;
        }
    }

    /** The letters told so far, and the town that they tell. */
    private static final class Letters {
        private final int[] signs;
        private final Town draft;
        int told;

        Letters() {
            signs = new int[MOST_LETTERS];
            draft = new Town();
        }

        void add(int c) {
            if (told < MOST_LETTERS) {
                signs[told] = c;
                told++;
            }
        }

        void forget() {
            told = 0;
        }

        /** The statements come to a draft first, so that a fault leaves the town as it was. */
        int tell(Town town) {
            int wrong = faultOfForm();
            if (wrong >= 0) {
                return FORM_FAULT - wrong;
            }
            draft.become(town);
            int statements = 0;
            for (int place = 0; place < told; place++) {
                if (place == 0 || signs[place - 1] == ';') {
                    if (!state(place)) {
                        return SENSE_FAULT - place;
                    }
                    statements++;
                }
            }
            town.become(draft);
            return statements;
        }

        private int faultOfForm() {
            boolean isInside = false;
            boolean isKindDue = false;
            int digitsDue = 0;
            for (int place = 0; place < told; place++) {
                int sign = signs[place];
                if (!isInside) {
                    digitsDue = digitsBehind(sign);
                    if (digitsDue == 0) {
                        return place;
                    }
                    isInside = true;
                    isKindDue = sign == 'p';
                } else if (isKindDue) {
                    if (kindBy(sign) < 0) {
                        return place;
                    }
                    isKindDue = false;
                } else if (digitsDue > 0) {
                    if (sign < '0' || sign > '9') {
                        return place;
                    }
                    digitsDue--;
                } else {
                    if (sign != ';') {
                        return place;
                    }
                    isInside = false;
                }
            }
            return isInside || told == 0 ? told : NONE;
        }

        private static int digitsBehind(int sign) {
            switch (sign) {
                case 'b':
                case 'p':
                case 's':
                    return 3;
                case 'g':
                case 'd':
                    return 2;
                case 'e':
                    return 1;
                default:
                    return 0;
            }
        }

        private static int kindBy(int sign) {
            return KIND_LETTERS.indexOf((char) sign);
        }

        private boolean state(int place) {
            switch (signAt(place)) {
                case 'b':
                    return draft.addBell(number(place + 1, 2), number(place + 3, 1));
                case 'p':
                    return draft.addPerson(kindBy(signAt(place + 1)), number(place + 2, 1), number(place + 3, 2));
                case 'g':
                    return stateAway(number(place + 1, 1), number(place + 2, 1));
                case 's':
                    return stateSlept(number(place + 1, 1), number(place + 2, 2));
                case 'e':
                    return stateBeds(number(place + 1, 1));
                default:
                    return stateDays(number(place + 1, 2));
            }
        }

        private boolean stateAway(int p, int nights) {
            if (p >= draft.people) {
                return false;
            }
            draft.away[p] = nights;
            return true;
        }

        private boolean stateSlept(int p, int nights) {
            if (p >= draft.people) {
                return false;
            }
            draft.slept[p] = nights;
            return true;
        }

        private boolean stateBeds(int many) {
            if (many < 1 || many > MOST_BEDS) {
                return false;
            }
            draft.bedCount = many;
            return true;
        }

        private boolean stateDays(int n) {
            if (n < 1 || n > MOST_DAYS_AT_ONCE || n > MOST_DAY - draft.day) {
                return false;
            }
            draft.pass(n);
            return true;
        }

        private int number(int place, int digits) {
            int value = 0;
            for (int i = 0; i < digits; i++) {
                value = 10 * value + signAt(place + i) - '0';
            }
            return value;
        }

        private int signAt(int place) {
            return place >= 0 && place < told ? signs[place] : '0';
        }
    }

    /** The numbers of the row. */
    private static final class Numbers {
        private final int[] values;
        int size;

        Numbers() {
            values = new int[MOST_NUMBERS];
        }

        void add(int v) {
            if (size < MOST_NUMBERS) {
                values[size] = v;
                size++;
            }
        }

        void forget() {
            size = 0;
        }

        int at(int i) {
            return i >= 0 && i < size ? values[i] : NONE;
        }
    }

    /** What is said in a town as it stands. */
    private static final class Voices {
        private final int[] foes;

        Voices() {
            foes = new int[MOST_PEOPLE];
        }

        int rightBells(Town town, int without) {
            int rest = without >= 0 ? ~(1 << without) : ~0;
            int many = 0;
            for (int b = 0; b < town.bells; b++) {
                if (town.saidOf(b, town.hearersOf(b) & rest) == town.hour[b]) {
                    many++;
                }
            }
            return many;
        }

        int wrongBells(Town town) {
            return town.bells - Integer.bitCount(town.silentBells()) - rightBells(town, NONE);
        }

        int whomToLeaveOut(Town town) {
            int best = NONE;
            int most = rightBells(town, NONE);
            for (int p = 0; p < town.people; p++) {
                int many = rightBells(town, p);
                if (many > most) {
                    most = many;
                    best = p;
                }
            }
            return best;
        }

        private static boolean doClash(Town town, int p, int q) {
            if (town.hoursLater(p) == town.hoursLater(q)) {
                return false;
            }
            for (int b = 0; b < town.bells; b++) {
                if (town.hearsIt(p, b) && town.hearsIt(q, b)) {
                    return true;
                }
            }
            return false;
        }

        int clashes(Town town) {
            int many = 0;
            for (int p = 0; p < town.people; p++) {
                for (int q = p + 1; q < town.people; q++) {
                    if (doClash(town, p, q)) {
                        many++;
                    }
                }
            }
            return many;
        }

        int firstClash(Town town) {
            for (int p = 0; p < town.people; p++) {
                for (int q = p + 1; q < town.people; q++) {
                    if (doClash(town, p, q)) {
                        return 10 * p + q;
                    }
                }
            }
            return NONE;
        }

        int mostAgreed(Town town) {
            findFoes(town);
            int hearers = town.hearersOfSome();
            int best = 0;
            for (int who = 1; who < 1 << town.people; who++) {
                if ((who & ~hearers) == 0 && Integer.bitCount(who) > Integer.bitCount(best) && isPeaceful(who)) {
                    best = who;
                }
            }
            return best;
        }

        private void findFoes(Town town) {
            for (int p = 0; p < town.people; p++) {
                foes[p] = 0;
                for (int q = 0; q < town.people; q++) {
                    if (doClash(town, p, q)) {
                        foes[p] |= 1 << q;
                    }
                }
            }
        }

        private boolean isPeaceful(int who) {
            for (int p = 0; p < MOST_PEOPLE; p++) {
                if ((who >> p & 1) != 0 && (foes[p] & who) != 0) {
                    return false;
                }
            }
            return true;
        }

        int hoursSaid(Town town) {
            int said = 0;
            for (int b = 0; b < town.bells; b++) {
                for (int p = 0; p < town.people; p++) {
                    if (town.hearsIt(p, b)) {
                        said |= 1 << town.hourBy(p, b);
                    }
                }
            }
            return said;
        }
    }

    /** What comes if all goes on as it is, thought through on a town of its own. */
    private static final class Mind {
        private final Town then;

        Mind() {
            then = new Town();
        }

        Town after(Town town, int n) {
            then.become(town);
            then.pass(n);
            return then;
        }

        int deafAfter(Town town, int person) {
            then.become(town);
            for (int d = 0; d <= MOST_THOUGHT; d++) {
                if (!then.hearsSome(person)) {
                    return d;
                }
                then.pass(1);
            }
            return NONE;
        }

        int firstLost(Town town, boolean isWhich) {
            then.become(town);
            int silentBefore = then.silentBells();
            for (int d = 1; d <= MOST_THOUGHT; d++) {
                then.pass(1);
                int lost = then.silentBells() & ~silentBefore;
                if (lost != 0) {
                    return isWhich ? leastBit(lost) : d;
                }
            }
            return NONE;
        }

        int rightDays(Town town, int bell, int n) {
            then.become(town);
            return then.passCountingRight(bell, bell + 1, n);
        }

        int unheardDays(Town town, int bell, int n) {
            then.become(town);
            int many = 0;
            for (int d = 1; d <= n; d++) {
                then.pass(1);
                if (then.isRinging(bell) && then.hearersOf(bell) == 0) {
                    many++;
                }
            }
            return many;
        }

        int longestRight(Town town, int bell) {
            then.become(town);
            int left = 0;
            for (int p = 0; p < then.people; p++) {
                if (then.hearsIt(p, bell) && then.hoursLater(p) == 0) {
                    left |= 1 << p;
                }
            }
            for (int d = 1; d <= MOST_THOUGHT; d++) {
                then.pass(1);
                int still = left & then.hearersOf(bell);
                if (still == 0) {
                    break;
                }
                left = still;
            }
            return leastBit(left);
        }

        int lastDeaf(Town town) {
            then.become(town);
            int left = then.hearersOfSome();
            for (int d = 1; d <= MOST_THOUGHT; d++) {
                then.pass(1);
                int still = left & then.hearersOfSome();
                if (still == 0) {
                    break;
                }
                left = still;
            }
            return leastBit(left);
        }

        /** Only how many days were clear matters: of t to the power of n ways, those that leave the bell heard. */
        long clearWays(Town town, int bell, int n, int t) {
            then.become(town);
            long heard = 0;
            long choose = 1;
            for (int clear = 0; clear <= n; clear++) {
                if (then.hearersOf(bell) != 0) {
                    heard += choose * power(t - 1, clear);
                }
                choose = choose * (n - clear) / (clear + 1);
                then.pass(1);
            }
            return heard;
        }

        /** Nobody's nights hang on his kind, so all kinds are tried along one run of days. */
        int kindsBy(Town town, int person, int bell, Numbers numbers) {
            then.become(town);
            int fitting = (1 << KINDS) - 1;
            for (int d = 0; d < numbers.size; d++) {
                for (int kind = 0; kind < KINDS; kind++) {
                    then.makeKind(person, kind, town.figure[person]);
                    if (wordOn(person, bell) != numbers.at(d)) {
                        fitting &= ~(1 << kind);
                    }
                }
                then.pass(1);
            }
            return fitting;
        }

        int figuresBy(Town town, int person, int bell, Numbers numbers) {
            then.become(town);
            int fitting = (1 << MOST_FIGURE + 1) - 1;
            for (int d = 0; d < numbers.size; d++) {
                for (int figure = 0; figure <= MOST_FIGURE; figure++) {
                    then.makeKind(person, town.kind[person], figure);
                    if (wordOn(person, bell) != numbers.at(d)) {
                        fitting &= ~(1 << figure);
                    }
                }
                then.pass(1);
            }
            return fitting;
        }

        private int wordOn(int person, int bell) {
            return then.hearsIt(person, bell) ? then.hourBy(person, bell) : MOST_NUMBER;
        }

        int firstUntrue(Town town, Numbers numbers) {
            then.become(town);
            for (int d = 0; d < numbers.size; d++) {
                if (Integer.bitCount(then.hearersOfSome()) != numbers.at(d)) {
                    return d;
                }
                then.pass(1);
            }
            return NONE;
        }

        int townsByLot(Town town, int n, int seed, boolean isHearers) {
            int z = seed;
            int sum = 0;
            for (int i = 0; i < n; i++) {
                then.become(town);
                for (int p = 0; p < then.people; p++) {
                    z = z * 1664525 + 1013904223;
                    then.slept[p] = (z & Integer.MAX_VALUE) / 256 % LOT_SLEPT;
                }
                then.pass(LOT_DAYS);
                sum += isHearers ? Integer.bitCount(then.hearersOfSome()) : then.allSlept();
            }
            return sum;
        }
    }

    /** What had better be done, tried on a town of its own. */
    private static final class Plans {
        private final Town trial;
        private final int[] outcome;

        Plans() {
            trial = new Town();
            outcome = new int[4];
        }

        int whomToSend(Town town, int bell, int k, int n) {
            trial.become(town);
            int most = trial.passCountingRight(bell, bell + 1, n);
            int best = NONE;
            for (int p = 0; p < town.people; p++) {
                trial.become(town);
                trial.away[p] = k;
                int many = trial.passCountingRight(bell, bell + 1, n);
                if (many > most) {
                    most = many;
                    best = p;
                }
            }
            return best;
        }

        int bestNights(Town town, int person, int n) {
            trial.become(town);
            int most = trial.passCountingRight(0, town.bells, n);
            int best = NONE;
            for (int k = 1; k <= MOST_AWAY; k++) {
                trial.become(town);
                trial.away[person] = k;
                int many = trial.passCountingRight(0, town.bells, n);
                if (many > most) {
                    most = many;
                    best = k;
                }
            }
            return best;
        }

        int fewestToSend(Town town, int n) {
            int best = NONE;
            int least = MOST_PEOPLE + 1;
            for (int who = 0; who < 1 << town.people; who++) {
                if (Integer.bitCount(who) < least && isAllHeardWithout(town, who, n)) {
                    least = Integer.bitCount(who);
                    best = who;
                }
            }
            return best;
        }

        private boolean isAllHeardWithout(Town town, int sent, int n) {
            trial.become(town);
            for (int p = 0; p < town.people; p++) {
                if ((sent >> p & 1) != 0) {
                    trial.away[p] = SENT_NIGHTS;
                }
            }
            trial.pass(n);
            return trial.silentBells() == 0;
        }

        int fewestBeds(Town town, int n) {
            for (int many = 1; many <= MOST_BEDS; many++) {
                trial.become(town);
                trial.bedCount = many;
                trial.pass(n);
                if (trial.silentBells() == 0) {
                    return many;
                }
            }
            return NONE;
        }

        int daysUnheardBySending(Town town, int person, int k, int bell) {
            trial.become(town);
            int without = daysHeard(person, bell);
            trial.become(town);
            trial.away[person] = k;
            return without - daysHeard(person, bell);
        }

        private int daysHeard(int person, int bell) {
            int many = 0;
            for (int d = 1; d <= COST_DAYS; d++) {
                trial.pass(1);
                if (trial.hearsIt(person, bell)) {
                    many++;
                }
            }
            return many;
        }

        int settledPair(Town town, int a, int b, int n) {
            for (int pair = 0; pair < 4; pair++) {
                trial.become(town);
                if (pair >= 2) {
                    trial.makeKind(a, LIAR, LIE);
                }
                if (pair % 2 == 1) {
                    trial.makeKind(b, LIAR, LIE);
                }
                outcome[pair] = trial.passCountingRight(0, town.bells, n);
            }
            for (int pair = 0; pair < 4; pair++) {
                if (outcome[pair] >= outcome[pair ^ 2] && outcome[pair] <= outcome[pair ^ 1]) {
                    return 10 * (pair / 2) + pair % 2;
                }
            }
            return NONE;
        }
    }
}
