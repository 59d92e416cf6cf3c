import java.util.Arrays;
import java.util.NoSuchElementException;

/** The desk of a company that plays in turns; ../shared/DOC.md tells what each call promises. */
public final class PlayCompany {
    public static final int NONE = -1;

    private static final int NO_SUCH = -2;
    private static final int MOST_ACTORS = 12;
    private static final int MOST_PLAYS = 12;
    private static final int MOST_ROLES = 8;
    private static final int MOST_DOUBLES = 3;
    private static final int MOST_CHOSEN = 8;
    private static final int MOST_TERMS = 10;
    private static final int MOST_BYTES = 800;
    private static final int KINDS = 12;
    private static final int STORES = 12;
    private static final int LAST_DAY = 100000;
    private static final int DAYS_OF_A_YEAR = 365;

    // What about() is asked for; the words of a TERM measure by the same numbers.
    private static final int AGE = 0;
    private static final int YEARS = 1;
    private static final int FEE = 2;
    private static final int GRADE = 3;
    private static final int GUEST = 4;
    private static final int IN = 5;
    private static final int ROLES = 6;
    private static final int PAY = 7;

    private final Actor[] actors;
    private int actorCount;
    private final Play[] repertoire;
    private int playCount;
    private final CastFinder finder;
    private int castPlay;
    private long cast;
    private final WeekPlanner planner;
    private final Ledger ledger;
    private final byte[] tape;
    private int tapeLength;
    private final TermReader reader;
    private Agreement agreed;
    private Agreement draft;

    public PlayCompany() {
        actors = new Actor[MOST_ACTORS];
        repertoire = new Play[MOST_PLAYS];
        finder = new CastFinder();
        castPlay = NONE;
        planner = new WeekPlanner();
        ledger = new Ledger();
        tape = new byte[MOST_BYTES];
        reader = new TermReader();
        agreed = new Agreement();
        draft = new Agreement();
    }

    public int actor(int fee, int birth, int joined, boolean guest) {
        if (actorCount >= MOST_ACTORS || !within(fee, 1, 100) || !isDay(birth) || !isDay(joined)) {
            return NONE;
        }
        actors[actorCount] = new Actor(fee, birth, joined, guest);
        return actorCount++;
    }

    public boolean plays(int actor, int kind, int grade) {
        Actor one = actorAt(actor);
        if (one == null || !isKind(kind) || !within(grade, 0, 9)) {
            return false;
        }
        one.grades[kind] = grade;
        return true;
    }

    public boolean comes(int actor, boolean in) {
        Actor one = actorAt(actor);
        if (one == null) {
            return false;
        }
        one.in = in;
        return true;
    }

    public int play(int minutes, int takings, int store, int weight) {
        if (playCount >= MOST_PLAYS || !within(minutes, 1, 240) || !within(takings, 0, 1000)
                || !within(store, 0, STORES - 1) || !within(weight, 0, 30)) {
            return NONE;
        }
        repertoire[playCount] = new Play(minutes, takings, store, weight);
        return playCount++;
    }

    public int role(int play, int kind, int grade, boolean needed) {
        Play one = playAt(play);
        if (one == null || !isKind(kind) || !within(grade, 1, 9)) {
            return NONE;
        }
        return one.addRole(kind, grade, needed);
    }

    public boolean does(int play, int role, int kind) {
        Play one = playAt(play);
        return one != null && isKind(kind) && one.addKind(role, kind);
    }

    public boolean doubles(int play, int a, int b) {
        Play one = playAt(play);
        return one != null && one.addPair(a, b);
    }

    public int can(int actor, int play, int role) {
        Actor who = actorAt(actor);
        Play one = playAt(play);
        if (who == null || one == null || !one.hasRole(role)) {
            return NONE;
        }
        return one.rolesFor(who) >> role & 1;
    }

    public int fit(int play) {
        Play one = playAt(play);
        if (one == null) {
            return NO_SUCH;
        }
        long found = finder.search(one, actors, CastFinder.NOBODY);
        if (found == CastFinder.NO_CAST) {
            return NONE;
        }
        castPlay = play;
        cast = found;
        return CastFinder.filledIn(found);
    }

    public int anew() {
        Play one = playAt(castPlay);
        if (one == null) {
            return NO_SUCH;
        }
        long found = finder.search(one, actors, cast);
        if (found == CastFinder.NO_CAST) {
            return NONE;
        }
        int changed = CastFinder.filledIn(cast) - CastFinder.keptIn(found);
        cast = found;
        return changed;
    }

    public int hand(int role) {
        return within(role, 0, MOST_ROLES - 1) ? CastFinder.actorIn(cast, role) : NONE;
    }

    public int playable() {
        int set = 0;
        for (int play = 0; play < playCount; play++) {
            Play one = repertoire[play];
            if (one != null && finder.canBeCast(one, actors)) {
                set |= 1 << play;
            }
        }
        return set;
    }

    public int week(int set) {
        if (set >>> playCount != 0 || !within(Integer.bitCount(set), 1, MOST_CHOSEN)) {
            return NONE;
        }
        return planner.plan(repertoire, set);
    }

    public int order(int i) {
        return within(i, 0, planner.size - 1) ? planner.sequence[i] : NONE;
    }

    public int fill(int minutes) {
        if (!within(minutes, 0, 1000)) {
            return NONE;
        }
        int choice = firstOf(playable());
        int best = 0;
        int bestTakings = 0;
        for (int set = choice; set > 0; set = (set - 1) & choice) {
            if (minutesOf(set) <= minutes) {
                int takings = takingsOf(set);
                if (takings > bestTakings || takings == bestTakings && isBefore(set, best)) {
                    best = set;
                    bestTakings = takings;
                }
            }
        }
        return best;
    }

    public int fact(int item, int day, int holder) {
        return isDay(day) ? ledger.tell(item, day, holder) : NONE;
    }

    public int where(int item, int day, int n) throws NoSuchElementException {
        if (!ledger.isItem(item) || !within(n, 0, ledger.size)) {
            throw new NoSuchElementException();
        }
        return ledger.holderOf(item, day, n);
    }

    public int held(int holder, int day) {
        return ledger.itemsWith(holder, day);
    }

    public int feed(int a, int b, int c, int d, int e) {
        if (tapeLength + 20 > MOST_BYTES) {
            return NONE;
        }
        put(a);
        put(b);
        put(c);
        put(d);
        put(e);
        return tapeLength;
    }

    public int end(int n) {
        if (!within(n, 0, tapeLength)) {
            return NONE;
        }
        tapeLength = n;
        return n;
    }

    public int terms() {
        int fault = reader.read(tape, tapeLength, draft);
        tapeLength = 0;
        if (fault == 0) {
            Agreement former = agreed;
            agreed = draft;
            draft = former;
        }
        return fault;
    }

    public int may(int actor, int day) {
        if (actorAt(actor) == null) {
            return NONE;
        }
        for (int term = 0; term < agreed.size; term++) {
            if (agreed.words[term] == Token.MAY && !holds(term, actor, day)) {
                return 0;
            }
        }
        return 1;
    }

    public int broken(int day) {
        if (castPlay == NONE) {
            return NO_SUCH;
        }
        for (int term = 0; term < agreed.size; term++) {
            if (!keeps(term, day)) {
                return term;
            }
        }
        return NONE;
    }

    public int about(int actor, int day, int what) throws NoSuchElementException {
        if (actorAt(actor) == null || !within(what, AGE, PAY)) {
            throw new NoSuchElementException();
        }
        return what == PAY ? payOf(actor, day) : measure(actor, day, what);
    }

    public int count(int what) {
        switch (what) {
            case 0: return actorCount;
            case 1: return playCount;
            case 2: return ledger.size;
            case 3: return agreed.size;
            case 4: return castPlay;
            case 5: return planner.size;
            case 6: return tapeLength;
            case 7: return countIn();
            default: return NONE;
        }
    }

    private static boolean within(int number, int least, int greatest) {
        return number >= least && number <= greatest;
    }

    private static boolean isDay(int day) {
        return within(day, -LAST_DAY, LAST_DAY);
    }

    private static boolean isKind(int kind) {
        return within(kind, 0, KINDS - 1);
    }

    private Actor actorAt(int number) {
        return within(number, 0, actorCount - 1) ? actors[number] : null;
    }

    private Play playAt(int number) {
        return within(number, 0, playCount - 1) ? repertoire[number] : null;
    }

    private int countIn() {
        int all = 0;
        for (int number = 0; number < actorCount; number++) {
            Actor one = actors[number];
            if (one != null && one.in) {
                all++;
            }
        }
        return all;
    }

    private int firstOf(int set) {
        int chosen = 0;
        for (int play = 0; play < playCount && Integer.bitCount(chosen) < MOST_CHOSEN; play++) {
            chosen |= set & 1 << play;
        }
        return chosen;
    }

    private int minutesOf(int set) {
        int sum = 0;
        for (int play = 0; play < playCount; play++) {
            Play one = repertoire[play];
            if (one != null && (set >> play & 1) == 1) {
                sum += one.minutes;
            }
        }
        return sum;
    }

    private int takingsOf(int set) {
        int sum = 0;
        for (int play = 0; play < playCount; play++) {
            Play one = repertoire[play];
            if (one != null && (set >> play & 1) == 1) {
                sum += one.takings;
            }
        }
        return sum;
    }

    /** Of two different sets, told as lists with the least first: where they part, the lesser is before; so is the list that ends. */
    private static boolean isBefore(int a, int b) {
        int differing = a ^ b;
        int parting = differing & -differing;
        return (a & parting) != 0 ? (b & -parting) != 0 : (a & -parting) == 0;
    }

    private void put(int number) {
        for (int shift = 24; shift >= 0 && tapeLength < MOST_BYTES; shift -= 8) {
            tape[tapeLength] = (byte) (number >>> shift);
            tapeLength++;
        }
    }

    private int rolesOf(int actor) {
        int all = 0;
        for (int role = 0; role < MOST_ROLES; role++) {
            if (CastFinder.actorIn(cast, role) == actor) {
                all++;
            }
        }
        return all;
    }

    private int payOf(int actor, int day) {
        int sum = 0;
        for (int term = 0; term < agreed.size; term++) {
            if (agreed.words[term] == Token.PAY && holds(term, actor, day)) {
                sum += agreed.numbers[term];
            }
        }
        return sum;
    }

    private boolean keeps(int term, int day) {
        Token word = agreed.words[term];
        if (word == Token.PAY) {
            return true;
        }
        int all = 0;
        int holding = 0;
        for (int actor = 0; actor < actorCount; actor++) {
            if (rolesOf(actor) > 0) {
                all++;
                if (holds(term, actor, day)) {
                    holding++;
                }
            }
        }
        if (word == Token.MAY) {
            return holding == all;
        }
        int number = agreed.numbers[term];
        return word == Token.MOST ? holding <= number : holding >= number;
    }

    /** The steps of a TERM stand operands first; the lowest bit of the stack is its top, and 8 levels need far fewer than its 64. */
    private boolean holds(int term, int actor, int day) {
        long stack = 0;
        for (int i = agreed.startOf(term); i < agreed.stops[term]; i++) {
            int step = agreed.steps[i];
            switch (Agreement.kindOf(step)) {
                case Agreement.NOT:
                    stack ^= 1L;
                    break;
                case Agreement.AND:
                    stack = stack >>> 1 & (stack | -2L);
                    break;
                case Agreement.OR:
                    stack = stack >>> 1 | stack & 1L;
                    break;
                default:
                    stack = stack << 1 | (comparisonHolds(step, actor, day) ? 1L : 0L);
                    break;
            }
        }
        return (stack & 1L) == 1L;
    }

    private boolean comparisonHolds(int step, int actor, int day) {
        boolean less = measure(actor, day, Agreement.whatOf(step)) < Agreement.numberOf(step);
        return less == (Agreement.kindOf(step) == Agreement.LESS);
    }

    private int measure(int actor, int day, int what) {
        Actor one = actorAt(actor);
        if (one == null) {
            return 0;
        }
        switch (what) {
            case AGE: return yearsBetween(one.birth, day);
            case YEARS: return yearsBetween(one.joined, day);
            case FEE: return one.fee;
            case GRADE: return one.greatestGrade();
            case GUEST: return one.guest ? 1 : 0;
            case IN: return one.in ? 1 : 0;
            case ROLES: return rolesOf(actor);
            default: return 0;
        }
    }

    private static int yearsBetween(int from, int day) {
        // A day may be any int, so that the difference needs a long.
        return (int) Math.floorDiv((long) day - (long) from, (long) DAYS_OF_A_YEAR);
    }

    private static final class Actor {
        final int fee;
        final int birth;
        final int joined;
        final boolean guest;
        boolean in;
        final int[] grades;

        Actor(int fee, int birth, int joined, boolean guest) {
            this.fee = fee;
            this.birth = birth;
            this.joined = joined;
            this.guest = guest;
            in = true;
            grades = new int[KINDS];
        }

        boolean reaches(int kinds, int grade) {
            for (int kind = 0; kind < KINDS; kind++) {
                if ((kinds >> kind & 1) == 1 && grades[kind] >= grade) {
                    return true;
                }
            }
            return false;
        }

        int greatestGrade() {
            int greatest = 0;
            for (int kind = 0; kind < KINDS; kind++) {
                greatest = Math.max(greatest, grades[kind]);
            }
            return greatest;
        }
    }

    /** A play; sets of roles and of kinds are bits. */
    private static final class Play {
        final int minutes;
        final int takings;
        final int store;
        final int weight;
        int roleCount;
        int needed;
        final int[] kinds;
        final int[] grades;
        int pairCount;
        final int[] pairs;

        Play(int minutes, int takings, int store, int weight) {
            this.minutes = minutes;
            this.takings = takings;
            this.store = store;
            this.weight = weight;
            kinds = new int[MOST_ROLES];
            grades = new int[MOST_ROLES];
            pairs = new int[MOST_DOUBLES];
        }

        boolean hasRole(int role) {
            return within(role, 0, roleCount - 1);
        }

        int allRoles() {
            return (1 << roleCount) - 1;
        }

        int addRole(int kind, int grade, boolean isNeeded) {
            if (roleCount >= MOST_ROLES) {
                return NONE;
            }
            kinds[roleCount] = 1 << kind;
            grades[roleCount] = grade;
            if (isNeeded) {
                needed |= 1 << roleCount;
            }
            return roleCount++;
        }

        boolean addKind(int role, int kind) {
            if (!hasRole(role) || (kinds[role] >> kind & 1) == 1) {
                return false;
            }
            kinds[role] |= 1 << kind;
            return true;
        }

        boolean addPair(int a, int b) {
            if (!hasRole(a) || !hasRole(b) || a == b || pairCount >= MOST_DOUBLES) {
                return false;
            }
            int both = 1 << a | 1 << b;
            for (int i = 0; i < pairCount; i++) {
                if (pairs[i] == both) {
                    return false;
                }
            }
            pairs[pairCount] = both;
            pairCount++;
            return true;
        }

        int rolesFor(Actor actor) {
            int set = 0;
            for (int role = 0; role < roleCount && actor.in; role++) {
                if (actor.reaches(kinds[role], grades[role])) {
                    set |= 1 << role;
                }
            }
            return set;
        }
    }

    /**
     * Finds the first of the best casts. A cast is one long, so that the greater long is the better cast:
     * above, how many hands it keeps; then how many roles it fills; then 4 bits for each role, role 0 the
     * highest, the greater the lesser the actor is, 0 for nobody.
     */
    private static final class CastFinder {
        static final long NOBODY = 0L;
        static final long NO_CAST = -1L;
        private static final int FILLED_AT = 32;
        private static final int KEPT_AT = 36;

        private final long[] best;
        private final int[] partRoles;
        private final long[] partWorth;
        private int parts;

        CastFinder() {
            best = new long[1 << MOST_ROLES];
            partRoles = new int[MOST_ROLES + MOST_DOUBLES];
            partWorth = new long[MOST_ROLES + MOST_DOUBLES];
        }

        static int filledIn(long cast) {
            return (int) (cast >>> FILLED_AT) & 15;
        }

        static int keptIn(long cast) {
            return (int) (cast >>> KEPT_AT) & 15;
        }

        static int actorIn(long cast, int role) {
            int rank = (int) (cast >>> placeOf(role)) & 15;
            return rank == 0 ? NONE : MOST_ACTORS - rank;
        }

        private static int placeOf(int role) {
            return 4 * (MOST_ROLES - 1 - role);
        }

        /** The best cast of a play that keeps what it can of a former cast. */
        long search(Play play, Actor[] actors, long former) {
            int all = play.allRoles();
            begin();
            for (int number = 0; number < actors.length; number++) {
                offer(play, actors[number], number, former, all);
            }
            long found = NO_CAST;
            for (int set = all; set >= play.needed; set--) {
                if ((set & play.needed) == play.needed) {
                    found = Math.max(found, best[set]);
                }
            }
            return found;
        }

        /** Leaving out what is not needed never spoils a cast, so the needed roles decide. */
        boolean canBeCast(Play play, Actor[] actors) {
            begin();
            for (int number = 0; number < actors.length && best[play.needed] == NO_CAST; number++) {
                offer(play, actors[number], number, NOBODY, play.needed);
            }
            return best[play.needed] != NO_CAST;
        }

        private void begin() {
            Arrays.fill(best, NO_CAST);
            best[0] = NOBODY;
        }

        private void offer(Play play, Actor actor, int number, long former, int wanted) {
            if (actor != null) {
                listParts(play, play.rolesFor(actor) & wanted, MOST_ACTORS - number, former);
                giveParts(wanted);
            }
        }

        /** What an actor who can the able roles may have: one of them, or a double. */
        private void listParts(Play play, int able, int rank, long former) {
            parts = 0;
            for (int i = 0; i < play.roleCount + play.pairCount && i < partRoles.length; i++) {
                int roles = i < play.roleCount ? 1 << i : play.pairs[i - play.roleCount];
                if ((able & roles) == roles) {
                    partRoles[parts] = roles;
                    partWorth[parts] = worthOf(roles, rank, former);
                    parts++;
                }
            }
        }

        private static long worthOf(int roles, long rank, long former) {
            long worth = 0;
            for (int role = 0; role < MOST_ROLES; role++) {
                if ((roles >> role & 1) == 1) {
                    int place = placeOf(role);
                    boolean kept = (former >>> place & 15L) == rank;
                    worth += (1L << FILLED_AT) + (rank << place) + (kept ? 1L << KEPT_AT : 0L);
                }
            }
            return worth;
        }

        /** Greater sets come first, so that the actor's own gains are not built upon. */
        private void giveParts(int wanted) {
            for (int set = wanted; set >= 0 && parts > 0; set = set == 0 ? NONE : (set - 1) & wanted) {
                long worth = best[set];
                for (int part = 0; part < parts && worth != NO_CAST; part++) {
                    int roles = partRoles[part];
                    if ((set & roles) == 0 && worth + partWorth[part] > best[set | roles]) {
                        best[set | roles] = worth + partWorth[part];
                    }
                }
            }
        }
    }

    /** Orders a week; inside, its plays are numbered from 0 on by their numbers. */
    private static final class WeekPlanner {
        private static final int FAR = 1000000;

        private final int[] members;
        private final int[] change;
        private final int[] behind;
        final int[] sequence;
        int size;

        WeekPlanner() {
            members = new int[MOST_CHOSEN];
            change = new int[MOST_CHOSEN * MOST_CHOSEN];
            behind = new int[MOST_CHOSEN << MOST_CHOSEN];
            sequence = new int[MOST_CHOSEN];
        }

        int plan(Play[] plays, int set) {
            gather(plays, set);
            weighChanges(plays);
            int all = (1 << size) - 1;
            for (int left = 1; left <= all; left++) {
                for (int first = 0; first < size; first++) {
                    if ((left >> first & 1) == 1) {
                        behind[left * MOST_CHOSEN + first] = leastBehind(left, first);
                    }
                }
            }
            return follow(plays, all);
        }

        private void gather(Play[] plays, int set) {
            size = 0;
            for (int play = 0; play < plays.length && size < MOST_CHOSEN; play++) {
                if ((set >> play & 1) == 1 && plays[play] != null) {
                    members[size] = play;
                    size++;
                }
            }
        }

        private void weighChanges(Play[] plays) {
            for (int a = 0; a < size; a++) {
                for (int b = 0; b < size; b++) {
                    change[a * MOST_CHOSEN + b] = changeBetween(plays[members[a]], plays[members[b]]);
                }
            }
        }

        private static int changeBetween(Play a, Play b) {
            if (a == null || b == null) {
                return 0;
            }
            int way = Math.abs(a.store - b.store);
            return 2 * Math.min(way, STORES - way) + a.weight * b.weight / 10;
        }

        /** The least work of the changes if the plays that are left are played, a certain one first. */
        private int leastBehind(int left, int first) {
            int rest = left ^ 1 << first;
            int least = rest == 0 ? 0 : FAR;
            for (int next = 0; next < size; next++) {
                if ((rest >> next & 1) == 1) {
                    least = Math.min(least, onward(first, rest, next));
                }
            }
            return least;
        }

        private int onward(int first, int rest, int next) {
            return change[first * MOST_CHOSEN + next] + behind[rest * MOST_CHOSEN + next];
        }

        private int follow(Play[] plays, int all) {
            int work = FAR;
            int last = 0;
            for (int first = 0; first < size; first++) {
                Play one = plays[members[first]];
                int start = one == null ? FAR : one.weight + behind[all * MOST_CHOSEN + first];
                if (start < work) {
                    work = start;
                    last = first;
                }
            }
            int left = all;
            for (int i = 0; i < size; i++) {
                sequence[i] = members[last];
                left ^= 1 << last;
                last = bestNext(last, left);
            }
            return work;
        }

        private int bestNext(int last, int rest) {
            int best = 0;
            int least = FAR;
            for (int next = 0; next < size; next++) {
                if ((rest >> next & 1) == 1 && onward(last, rest, next) < least) {
                    least = onward(last, rest, next);
                    best = next;
                }
            }
            return best;
        }
    }

    /** The facts about things, as they were told. */
    private static final class Ledger {
        private static final int MOST_FACTS = 200;
        private static final int ITEMS = 20;
        private static final int LOST = -2;
        private static final int NOWHERE = -3;

        int size;
        private final int[] items;
        private final int[] days;
        private final int[] holders;

        private final int[] latest;

        Ledger() {
            items = new int[MOST_FACTS];
            days = new int[MOST_FACTS];
            holders = new int[MOST_FACTS];
            latest = new int[ITEMS];
        }

        boolean isItem(int item) {
            return within(item, 0, ITEMS - 1);
        }

        boolean isHolder(int holder) {
            return within(holder, LOST, MOST_PLAYS - 1);
        }

        int tell(int item, int day, int holder) {
            if (size >= MOST_FACTS || !isItem(item) || !isHolder(holder)) {
                return NONE;
            }
            items[size] = item;
            days[size] = day;
            holders[size] = holder;
            return size++;
        }

        int holderOf(int item, int day, int n) {
            int found = NONE;
            for (int i = 0; i < n && i < size; i++) {
                if (items[i] == item && days[i] <= day && (found == NONE || days[i] >= days[found])) {
                    found = i;
                }
            }
            return found == NONE ? NOWHERE : holders[found];
        }

        int itemsWith(int holder, int day) {
            Arrays.fill(latest, NONE);
            for (int i = 0; i < size; i++) {
                int former = latest[items[i]];
                if (days[i] <= day && (former == NONE || days[i] >= days[former])) {
                    latest[items[i]] = i;
                }
            }
            int all = 0;
            for (int item = 0; item < ITEMS; item++) {
                if (latest[item] != NONE && holders[latest[item]] == holder) {
                    all++;
                }
            }
            return all;
        }
    }

    /** What the text of terms is made of; a word that measures knows what it asks about(). */
    private enum Token {
        MAY("may", NONE), MOST("most", NONE), LEAST("least", NONE), PAY("pay", NONE),
        IF("if", NONE), OR("or", NONE), AND("and", NONE), NOT("not", NONE),
        GUEST("guest", NONE),
        AGE("age", PlayCompany.AGE), YEARS("years", PlayCompany.YEARS), FEE("fee", PlayCompany.FEE),
        GRADE("grade", PlayCompany.GRADE), ROLES("roles", PlayCompany.ROLES),
        OPEN("(", NONE), CLOSE(")", NONE), SEMICOLON(";", NONE), LESS("<", NONE), AT_LEAST(">=", NONE),
        NUMBER("", NONE), FINISH("", NONE), WRONG("", NONE);

        final String spelling;
        final int what;

        Token(String spelling, int what) {
            this.spelling = spelling;
            this.what = what;
        }

        boolean opensTerm() {
            return this == MAY || this == MOST || this == LEAST || this == PAY;
        }

        boolean isSpelled(byte[] tape, int from, int to) {
            if (to - from != spelling.length()) {
                return false;
            }
            for (int i = from; i < to; i++) {
                if (tape[i] != spelling.charAt(i - from)) {
                    return false;
                }
            }
            return true;
        }
    }

    /** Terms that were read: of each the word, the number, and the steps that work out its condition, operands first. */
    private static final class Agreement {
        static final int NOT = 0;
        static final int AND = 1;
        static final int OR = 2;
        static final int LESS = 3;
        static final int AT_LEAST = 4;

        int size;
        final Token[] words;
        final int[] numbers;
        final int[] stops;
        final int[] steps;
        private int stepCount;

        Agreement() {
            words = new Token[MOST_TERMS];
            numbers = new int[MOST_TERMS];
            stops = new int[MOST_TERMS];
            steps = new int[MOST_BYTES];
        }

        static int comparison(int what, int kind, int number) {
            return kind | what << 3 | number << 6;
        }

        static int kindOf(int step) {
            return step & 7;
        }

        static int whatOf(int step) {
            return step >> 3 & 7;
        }

        static int numberOf(int step) {
            return step >> 6;
        }

        int startOf(int term) {
            return term > 0 ? stops[term - 1] : 0;
        }

        void empty() {
            size = 0;
            stepCount = 0;
        }

        void addTerm(Token word, int number) {
            if (size < MOST_TERMS) {
                words[size] = word;
                numbers[size] = number;
                stops[size] = stepCount;
                size++;
            }
        }

        /** A step more of the last term. */
        void addStep(int step) {
            if (stepCount < MOST_BYTES && size > 0) {
                steps[stepCount] = step;
                stepCount++;
                stops[size - 1] = stepCount;
            }
        }
    }

    /** Reads a text of terms: first its tokens, then what they say. */
    private static final class TermReader {
        private static final Token[] TOKENS = Token.values();
        private static final int MOST_DIGITS = 6;
        private static final int MOST_DEPTH = 8;
        private static final int MISFIT = 1;
        private static final int TOO_MUCH = 2;

        private final Token[] tokens;
        private final int[] places;
        private final int[] numbers;
        private int found;
        private int at;
        private int faultKind;
        private Agreement target;

        TermReader() {
            tokens = new Token[MOST_BYTES + 1];
            places = new int[MOST_BYTES + 1];
            numbers = new int[MOST_BYTES + 1];
        }

        /** 0, or the fault. A method that answers false has left the place at the token at fault. */
        int read(byte[] tape, int length, Agreement into) {
            scan(tape, length);
            target = into;
            target.empty();
            at = 0;
            faultKind = MISFIT;
            for (int term = 0; term <= MOST_TERMS && tokens[at] != Token.FINISH; term++) {
                if (!readTerm()) {
                    return faultKind + 16 * places[at];
                }
            }
            return 0;
        }

        private void scan(byte[] tape, int length) {
            found = 0;
            int to = 0;
            for (int from = 0; from < length; from++) {
                if (from >= to && !isBlank(tape[from])) {
                    to = stopOf(tape, from, length);
                    addToken(tape, from, to);
                }
            }
            tokens[found] = Token.FINISH;
            places[found] = length;
        }

        private static boolean isBlank(int sign) {
            return sign == ' ' || sign == '\n';
        }

        private static boolean isLetter(int sign) {
            return within(sign, 'a', 'z');
        }

        private static boolean isDigit(int sign) {
            return within(sign, '0', '9');
        }

        /** Behind the last byte of what stands together from a byte on. */
        private static int stopOf(byte[] tape, int from, int length) {
            int to = from + 1;
            if (isLetter(tape[from])) {
                while (to < length && isLetter(tape[to])) {
                    to++;
                }
            } else if (isDigit(tape[from])) {
                while (to < length && isDigit(tape[to])) {
                    to++;
                }
            } else if (tape[from] == '>' && to < length && tape[to] == '=') {
                to++;
            }
            return to;
        }

        private void addToken(byte[] tape, int from, int to) {
            if (found >= MOST_BYTES) {
                return;
            }
            if (isDigit(tape[from])) {
                tokens[found] = to - from <= MOST_DIGITS ? Token.NUMBER : Token.WRONG;
                numbers[found] = valueOf(tape, from, to);
            } else {
                tokens[found] = spelledToken(tape, from, to);
            }
            places[found] = from;
            found++;
        }

        private static int valueOf(byte[] tape, int from, int to) {
            int value = 0;
            for (int i = from; i < to; i++) {
                value = 10 * value + tape[i] - '0';
            }
            return value;
        }

        private static Token spelledToken(byte[] tape, int from, int to) {
            for (int i = 0; i < TOKENS.length; i++) {
                if (TOKENS[i].isSpelled(tape, from, to)) {
                    return TOKENS[i];
                }
            }
            return Token.WRONG;
        }

        private boolean take(Token wanted) {
            if (at >= found || tokens[at] != wanted) {
                return false;
            }
            at++;
            return true;
        }

        private boolean readTerm() {
            Token word = tokens[at];
            if (!word.opensTerm()) {
                return false;
            }
            if (target.size >= MOST_TERMS) {
                faultKind = TOO_MUCH;
                return false;
            }
            at++;
            int number = word == Token.MAY ? 0 : numbers[at];
            if (word != Token.MAY && !take(Token.NUMBER)) {
                return false;
            }
            target.addTerm(word, number);
            return take(Token.IF) && readAnyOf(0) && take(Token.SEMICOLON);
        }

        /** The document's E; the depth tells how many of not and ( lie round it. */
        private boolean readAnyOf(int depth) {
            if (!readAllOf(depth)) {
                return false;
            }
            for (int i = 0; i < MOST_BYTES && take(Token.OR); i++) {
                if (!readAllOf(depth)) {
                    return false;
                }
                target.addStep(Agreement.OR);
            }
            return true;
        }

        /** The document's T. */
        private boolean readAllOf(int depth) {
            if (!readPart(depth)) {
                return false;
            }
            for (int i = 0; i < MOST_BYTES && take(Token.AND); i++) {
                if (!readPart(depth)) {
                    return false;
                }
                target.addStep(Agreement.AND);
            }
            return true;
        }

        /** The document's F. */
        private boolean readPart(int depth) {
            Token first = tokens[at];
            if (first != Token.NOT && first != Token.OPEN) {
                return readSimple();
            }
            if (depth >= MOST_DEPTH) {
                faultKind = TOO_MUCH;
                return false;
            }
            at++;
            if (first == Token.OPEN) {
                return readAnyOf(depth + 1) && take(Token.CLOSE);
            }
            if (!readPart(depth + 1)) {
                return false;
            }
            target.addStep(Agreement.NOT);
            return true;
        }

        private boolean readSimple() {
            if (take(Token.GUEST)) {
                target.addStep(Agreement.comparison(GUEST, Agreement.AT_LEAST, 1));
                return true;
            }
            int what = tokens[at].what;
            if (what == NONE) {
                return false;
            }
            at++;
            boolean less = take(Token.LESS);
            if (!less && !take(Token.AT_LEAST)) {
                return false;
            }
            int number = numbers[at];
            if (!take(Token.NUMBER)) {
                return false;
            }
            target.addStep(Agreement.comparison(what, less ? Agreement.LESS : Agreement.AT_LEAST, number));
            return true;
        }
    }
}
