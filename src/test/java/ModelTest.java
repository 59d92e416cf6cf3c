import java.util.ArrayList;
import java.util.HashSet;
import java.util.List;
import java.util.NoSuchElementException;
import java.util.Set;
import java.util.TreeSet;

/** Long runs of calls, the same each time, against a plain model that tries every cast, order and set. */
public final class ModelTest {
    private static final int RUNS = 1500;
    private static final int CALLS = 500;
    // What an object answers behind its 512th call is free, so a run ends before; one text takes some 45 calls.
    private static final int MOST_SPENT = 512 - 45;
    private static long seed;
    private static int spent;

    public static void main(String[] args) {
        for (int run = 0; run < RUNS; run++) {
            seed = 7919L * run + 1;
            oneRun(run);
            illnesses(run);
        }
        Check.finish();
    }

    private static int pick(int bound) {
        seed = seed * 6364136223846793005L + 1442695040888963407L;
        return (int) ((seed >>> 33) % bound);
    }

    /** Mostly a number from 0 on below a bound, now and then one beside. */
    private static int near(int bound) {
        return pick(40) == 0 ? pick(2) == 0 ? -1 : bound : pick(Math.max(1, bound));
    }

    private static int someDay() {
        int[] odd = {Integer.MIN_VALUE, Integer.MAX_VALUE, -100001, 100001, -100000, 100000};
        return pick(30) == 0 ? odd[pick(odd.length)] : pick(4000) - 1000;
    }

    private static void oneRun(int run) {
        PlayCompany x = new PlayCompany();
        Model m = new Model();
        int kinds = 1 + pick(12);
        int calls = 1 + pick(CALLS);
        spent = 0;
        for (int call = 0; call < calls && spent <= MOST_SPENT; call++) {
            String name = "run " + run + ", call " + call + ": ";
            switch (pick(12)) {
                case 0: case 1: case 2: build(name, x, m, kinds); break;
                case 3: case 4: people(name, x, m, kinds); break;
                case 5: case 6: casts(name, x, m); break;
                case 7: weeks(name, x, m); break;
                case 8: case 9: things(name, x, m); break;
                case 10: text(name, x, m); break;
                default: questions(name, x, m); break;
            }
        }
    }

    /** One play whose actors are ill now and then, so that its cast is made anew again and again. */
    private static void illnesses(int run) {
        PlayCompany x = new PlayCompany();
        Model m = new Model();
        x.play(1, 0, 0, 0);
        m.play(1, 0, 0, 0);
        int roles = 2 + pick(7);
        int people = 2 + pick(11);
        int kinds = 2 + pick(5);
        for (int i = 0; i < roles; i++) {
            int kind = pick(kinds), grade = 1 + pick(6);
            boolean needed = pick(4) == 0;
            x.role(0, kind, grade, needed);
            m.role(0, kind, grade, needed);
        }
        for (int i = 0; i < 3; i++) {
            int a = pick(roles), b = pick(roles);
            Check.due("doubles(..)", x.doubles(0, a, b), m.doubles(0, a, b));
        }
        for (int i = 0; i < people; i++) {
            x.actor(1, 0, 0, false);
            m.actor(1, 0, 0, false);
            for (int kind = 0; kind < 2; kind++) {
                int of = pick(kinds), grade = pick(10);
                x.plays(i, of, grade);
                m.grade(i, of, grade);
            }
        }
        for (int night = 0; night < 12; night++) {
            for (int i = pick(5); i > 0; i--) {
                int actor = pick(people);
                boolean in = pick(3) > 0;
                x.comes(actor, in);
                m.comes(actor, in);
            }
            if (m.trials(0) > 100000) {
                continue;
            }
            String name = "illnesses " + run + ", night " + night + ": ";
            Check.due(name + "playable()", x.playable(), m.playable());
            if (night % 6 == 0) {
                Check.due(name + "fit(0)", x.fit(0), m.fit(0));
            } else {
                Check.due(name + "anew()", x.anew(), m.anew());
            }
            for (int role = 0; role < roles; role++) {
                Check.due(name + "hand(" + role + ")", x.hand(role), m.hand(role));
            }
        }
    }

    private static void build(String run, PlayCompany x, Model m, int kinds) {
        spent++;
        int play = near(m.plays.size());
        int roles = m.isPlay(play) ? m.plays.get(play).roles.size() : 1;
        switch (pick(8)) {
            case 0: {
                int minutes = near(241), takings = near(4), store = near(12), weight = near(31);
                Check.due(run + "play(..)", x.play(minutes, takings, store, weight), m.play(minutes, takings, store, weight));
                break;
            }
            case 1: case 2: case 3: case 4: {
                int kind = near(kinds), grade = near(10);
                boolean needed = pick(4) == 0;
                Check.due(run + "role(..)", x.role(play, kind, grade, needed), m.role(play, kind, grade, needed));
                break;
            }
            case 5: {
                int role = near(roles), kind = near(kinds);
                Check.due(run + "does(..)", x.does(play, role, kind), m.does(play, role, kind));
                break;
            }
            default: {
                int a = near(roles), b = near(roles);
                Check.due(run + "doubles(..)", x.doubles(play, a, b), m.doubles(play, a, b));
                break;
            }
        }
    }

    private static void people(String run, PlayCompany x, Model m, int kinds) {
        spent++;
        int actor = near(m.actors.size());
        switch (pick(6)) {
            case 0: {
                int fee = near(101), birth = someDay(), joined = someDay();
                boolean guest = pick(2) == 0;
                Check.due(run + "actor(..)", x.actor(fee, birth, joined, guest), m.actor(fee, birth, joined, guest));
                break;
            }
            case 1: {
                boolean in = pick(3) > 0;
                Check.due(run + "comes(..)", x.comes(actor, in), m.comes(actor, in));
                break;
            }
            default: {
                int kind = near(kinds), grade = near(10);
                Check.due(run + "plays(..)", x.plays(actor, kind, grade), m.grade(actor, kind, grade));
                break;
            }
        }
    }

    private static void casts(String run, PlayCompany x, Model m) {
        spent += 11;
        int play = near(m.plays.size());
        switch (pick(4)) {
            case 0: {
                if (m.isPlay(play) && m.trials(play) > 200000) {
                    return;
                }
                Check.due(run + "fit(" + play + ")", x.fit(play), m.fit(play));
                break;
            }
            case 1: case 2: {
                if (m.castPlay >= 0 && m.trials(m.castPlay) > 200000) {
                    return;
                }
                Check.due(run + "anew()", x.anew(), m.anew());
                break;
            }
            default: {
                int actor = near(m.actors.size()), role = near(8);
                Check.due(run + "can(..)", x.can(actor, play, role), m.can(actor, play, role));
                break;
            }
        }
        for (int role = -1; role <= 8; role++) {
            Check.due(run + "hand(" + role + ")", x.hand(role), m.hand(role));
        }
    }

    private static void weeks(String run, PlayCompany x, Model m) {
        switch (pick(6)) {
            case 0: case 1: {
                int set = pick(1 << m.plays.size());
                set &= pick(3) == 0 ? -1 : pick(1 << 12);
                set = pick(30) == 0 ? -1 : set;
                if (Integer.bitCount(set) > 6 && pick(20) > 0) {
                    return;
                }
                spent += 11;
                Check.due(run + "week(" + set + ")", x.week(set), m.week(set));
                for (int i = -1; i <= 8; i++) {
                    Check.due(run + "order(" + i + ")", x.order(i), m.order(i));
                }
                break;
            }
            case 2: {
                for (int play = 0; play < m.plays.size(); play++) {
                    if (m.trials(play) > 20000) {
                        return;
                    }
                }
                spent += 2;
                Check.due(run + "playable()", x.playable(), m.playable());
                int minutes = near(1001);
                Check.due(run + "fill(" + minutes + ")", x.fill(minutes), m.fill(minutes));
                break;
            }
            default:
                break;
        }
    }

    private static void things(String run, PlayCompany x, Model m) {
        spent++;
        int item = pick(3) == 0 ? near(20) : pick(3);
        int day = pick(2) == 0 ? pick(20) : someDay();
        int holder = pick(5) == 0 ? pick(17) - 4 : pick(4) - 2;
        int n = near(m.facts.size() + 1);
        switch (pick(4)) {
            case 0: case 1:
                Check.due(run + "fact(..)", x.fact(item, day, holder), m.fact(item, day, holder));
                break;
            case 2:
                Check.due(run + "held(..)", x.held(holder, day), m.held(holder, day));
                break;
            default: {
                long got;
                try {
                    got = x.where(item, day, n);
                } catch (NoSuchElementException e) {
                    got = 1000;
                }
                Check.due(run + "where(..)", got, m.where(item, day, n));
                break;
            }
        }
    }

    private static void text(String run, PlayCompany x, Model m) {
        if (pick(8) == 0) {
            spent += 2;
            int[] five = {pick(1 << 30), 0x6d617920, 0x69662067, 0x75657374, 0x3b202020};
            Check.due(run + "feed(..)", x.feed(five[0], five[1], five[2], five[3], five[4]), m.feed(five));
            int n = near(m.tape.length() + 2);
            Check.due(run + "end(..)", x.end(n), m.end(n));
            return;
        }
        StringBuilder text = new StringBuilder();
        int terms = pick(8) == 0 ? 9 + pick(4) : pick(4);
        for (int i = 0; i < terms; i++) {
            term(text);
        }
        for (int spoil = pick(3) == 0 ? 1 + pick(2) : 0; spoil > 0 && text.length() > 0; spoil--) {
            spoil(text);
        }
        if (text.length() > 760) {
            return;
        }
        spent += 6 + text.length() / 20;
        if (m.tape.length() > 0) {
            x.end(0);
            m.end(0);
        }
        Check.feedText(x, text.toString());
        m.tape = text;
        Check.due(run + "terms() of '" + text + "'", x.terms(), m.terms());
        Check.due(run + "count(6)", x.count(6), 0);
    }

    private static void term(StringBuilder text) {
        int word = pick(4);
        text.append(new String[] {"may", "most", "least", "pay"}[word]);
        blank(text);
        if (word > 0) {
            text.append(pick(3) == 0 ? pick(1000000) : pick(4));
            blank(text);
        }
        text.append("if ");
        either(text, pick(12) == 0 ? 10 : 3);
        text.append(';');
    }

    private static void blank(StringBuilder text) {
        text.append(pick(4) == 0 ? "\n " : " ");
    }

    private static void either(StringBuilder text, int depth) {
        part(text, depth);
        for (int more = pick(3); more > 0 && depth > 0; more--) {
            text.append(pick(2) == 0 ? " or " : " and ");
            part(text, depth - 1);
        }
    }

    private static void part(StringBuilder text, int depth) {
        int shape = pick(depth > 0 ? depth > 5 ? 7 : 4 : 2);
        if (shape == 0) {
            text.append("guest");
        } else if (shape == 1) {
            text.append(new String[] {"age", "years", "fee", "grade", "roles"}[pick(5)]);
            text.append(pick(2) == 0 ? "<" : " >= ").append(pick(12));
        } else if (shape % 2 == 0) {
            text.append("not ");
            part(text, depth - 1);
        } else {
            text.append('(');
            either(text, depth - 1);
            text.append(')');
        }
    }

    private static void spoil(StringBuilder text) {
        int at = pick(text.length());
        switch (pick(4)) {
            case 0:
                text.deleteCharAt(at);
                break;
            case 1:
                text.setLength(at);
                break;
            case 2:
                text.insert(at, new String[] {"not ", "(", ")", ";", " ", "1234567", "a", ">", "=", "and", "guest"}[pick(11)]);
                break;
            default:
                text.setCharAt(at, (char) pick(256));
                break;
        }
    }

    private static void questions(String run, PlayCompany x, Model m) {
        spent += 4;
        int actor = near(m.actors.size()), day = someDay(), what = near(8);
        Check.due(run + "may(..)", x.may(actor, day), m.may(actor, day));
        Check.due(run + "broken(..)", x.broken(day), m.broken(day));
        Check.due(run + "count(" + what + ")", x.count(what), m.count(what));
        long got;
        try {
            got = x.about(actor, day, what);
        } catch (NoSuchElementException e) {
            got = Long.MAX_VALUE;
        }
        Check.due(run + "about(.., " + what + ")", got, m.about(actor, day, what));
    }

    private static final class Person {
        int fee;
        int birth;
        int joined;
        boolean guest;
        boolean in = true;
        int[] grades = new int[12];
    }

    private static final class Part {
        Set<Integer> kinds = new HashSet<>();
        int grade;
        boolean needed;
    }

    private static final class Piece {
        int minutes;
        int takings;
        int store;
        int weight;
        List<Part> roles = new ArrayList<>();
        Set<Set<Integer>> doubles = new HashSet<>();
    }

    private interface Condition {
        boolean holds(int actor, int day);
    }

    private static final class Clause {
        String word;
        int number;
        Condition condition;
    }

    private static final class Model {
        final List<Person> actors = new ArrayList<>();
        final List<Piece> plays = new ArrayList<>();
        final List<int[]> facts = new ArrayList<>();
        StringBuilder tape = new StringBuilder();
        List<Clause> clauses = new ArrayList<>();
        int castPlay = -1;
        int[] cast = new int[0];
        List<Integer> week = new ArrayList<>();

        private int[] bestCast;
        private int[] bestWorth;
        private List<Integer> bestOrder;
        private int bestWork;

        private List<String> tokens;
        private List<Integer> places;
        private int next;

        static boolean in(int number, int least, int most) {
            return least <= number && number <= most;
        }

        boolean isPlay(int play) {
            return in(play, 0, plays.size() - 1);
        }

        boolean isActor(int actor) {
            return in(actor, 0, actors.size() - 1);
        }

        boolean isRole(int play, int role) {
            return isPlay(play) && in(role, 0, plays.get(play).roles.size() - 1);
        }

        int actor(int fee, int birth, int joined, boolean guest) {
            if (actors.size() == 12 || !in(fee, 1, 100) || !in(birth, -100000, 100000) || !in(joined, -100000, 100000)) {
                return -1;
            }
            Person p = new Person();
            p.fee = fee;
            p.birth = birth;
            p.joined = joined;
            p.guest = guest;
            actors.add(p);
            return actors.size() - 1;
        }

        boolean grade(int actor, int kind, int grade) {
            if (!isActor(actor) || !in(kind, 0, 11) || !in(grade, 0, 9)) {
                return false;
            }
            actors.get(actor).grades[kind] = grade;
            return true;
        }

        boolean comes(int actor, boolean in) {
            if (!isActor(actor)) {
                return false;
            }
            actors.get(actor).in = in;
            return true;
        }

        int play(int minutes, int takings, int store, int weight) {
            if (plays.size() == 12 || !in(minutes, 1, 240) || !in(takings, 0, 1000) || !in(store, 0, 11) || !in(weight, 0, 30)) {
                return -1;
            }
            Piece p = new Piece();
            p.minutes = minutes;
            p.takings = takings;
            p.store = store;
            p.weight = weight;
            plays.add(p);
            return plays.size() - 1;
        }

        int role(int play, int kind, int grade, boolean needed) {
            if (!isPlay(play) || plays.get(play).roles.size() == 8 || !in(kind, 0, 11) || !in(grade, 1, 9)) {
                return -1;
            }
            Part part = new Part();
            part.kinds.add(kind);
            part.grade = grade;
            part.needed = needed;
            plays.get(play).roles.add(part);
            return plays.get(play).roles.size() - 1;
        }

        boolean does(int play, int role, int kind) {
            return isRole(play, role) && in(kind, 0, 11) && plays.get(play).roles.get(role).kinds.add(kind);
        }

        boolean doubles(int play, int a, int b) {
            return isRole(play, a) && isRole(play, b) && a != b && plays.get(play).doubles.size() < 3
                    && plays.get(play).doubles.add(Set.of(a, b));
        }

        int can(int actor, int play, int role) {
            if (!isActor(actor) || !isRole(play, role)) {
                return -1;
            }
            Person p = actors.get(actor);
            Part part = plays.get(play).roles.get(role);
            for (int kind : part.kinds) {
                if (p.in && p.grades[kind] >= part.grade) {
                    return 1;
                }
            }
            return 0;
        }

        /** How many casts there are to try at most. */
        double trials(int play) {
            double all = 1;
            for (int role = 0; role < plays.get(play).roles.size(); role++) {
                int able = 1;
                for (int actor = 0; actor < actors.size(); actor++) {
                    able += can(actor, play, role);
                }
                all *= able;
            }
            return all;
        }

        private int[] findCast(int play, int[] former) {
            bestCast = null;
            bestWorth = null;
            tryRole(play, 0, new int[plays.get(play).roles.size()], former);
            return bestCast;
        }

        private void tryRole(int play, int role, int[] hands, int[] former) {
            if (role == hands.length) {
                int changes = 0;
                int filled = 0;
                for (int r = 0; r < hands.length; r++) {
                    filled += hands[r] >= 0 ? 1 : 0;
                    changes += r < former.length && former[r] >= 0 && former[r] != hands[r] ? 1 : 0;
                }
                if (bestWorth == null || changes < bestWorth[0] || changes == bestWorth[0] && filled > bestWorth[1]) {
                    bestWorth = new int[] {changes, filled};
                    bestCast = hands.clone();
                }
                return;
            }
            for (int actor = 0; actor < actors.size(); actor++) {
                if (can(actor, play, role) == 1 && isFree(play, role, actor, hands)) {
                    hands[role] = actor;
                    tryRole(play, role + 1, hands, former);
                }
            }
            if (!plays.get(play).roles.get(role).needed) {
                hands[role] = -1;
                tryRole(play, role + 1, hands, former);
            }
        }

        private boolean isFree(int play, int role, int actor, int[] hands) {
            Set<Integer> had = new TreeSet<>();
            for (int r = 0; r < role; r++) {
                if (hands[r] == actor) {
                    had.add(r);
                }
            }
            if (had.isEmpty()) {
                return true;
            }
            had.add(role);
            return had.size() == 2 && plays.get(play).doubles.contains(had);
        }

        int fit(int play) {
            if (!isPlay(play)) {
                return -2;
            }
            int[] found = findCast(play, new int[0]);
            if (found == null) {
                return -1;
            }
            castPlay = play;
            cast = found;
            return bestWorth[1];
        }

        int anew() {
            if (castPlay < 0) {
                return -2;
            }
            int[] found = findCast(castPlay, cast);
            if (found == null) {
                return -1;
            }
            cast = found;
            return bestWorth[0];
        }

        int hand(int role) {
            return in(role, 0, cast.length - 1) ? cast[role] : -1;
        }

        int playable() {
            int set = 0;
            for (int play = 0; play < plays.size(); play++) {
                set |= findCast(play, new int[0]) == null ? 0 : 1 << play;
            }
            return set;
        }

        int week(int set) {
            List<Integer> members = bits(set);
            if (members.isEmpty() || members.size() > 8 || members.get(members.size() - 1) >= plays.size()) {
                return -1;
            }
            bestOrder = null;
            tryOrder(new ArrayList<>(), members);
            week = bestOrder;
            return bestWork;
        }

        private static List<Integer> bits(int set) {
            List<Integer> all = new ArrayList<>();
            for (int i = 0; i < 32; i++) {
                if ((set >>> i & 1) == 1) {
                    all.add(i);
                }
            }
            return all;
        }

        private void tryOrder(List<Integer> done, List<Integer> left) {
            if (left.isEmpty()) {
                int work = plays.get(done.get(0)).weight;
                for (int i = 1; i < done.size(); i++) {
                    Piece a = plays.get(done.get(i - 1));
                    Piece b = plays.get(done.get(i));
                    int far = Math.floorMod(a.store - b.store, 12);
                    work += 2 * (far > 6 ? 12 - far : far) + a.weight * b.weight / 10;
                }
                if (bestOrder == null || work < bestWork) {
                    bestOrder = new ArrayList<>(done);
                    bestWork = work;
                }
                return;
            }
            for (int i = 0; i < left.size(); i++) {
                List<Integer> rest = new ArrayList<>(left);
                done.add(rest.remove(i));
                tryOrder(done, rest);
                done.remove(done.size() - 1);
            }
        }

        int order(int i) {
            return in(i, 0, week.size() - 1) ? week.get(i) : -1;
        }

        int fill(int minutes) {
            if (!in(minutes, 0, 1000)) {
                return -1;
            }
            List<Integer> choice = bits(playable());
            choice = choice.subList(0, Math.min(8, choice.size()));
            List<Integer> best = null;
            int bestTakings = -1;
            for (int mask = 0; mask < 1 << choice.size(); mask++) {
                List<Integer> set = new ArrayList<>();
                int sum = 0;
                int takings = 0;
                for (int i : bits(mask)) {
                    set.add(choice.get(i));
                    sum += plays.get(choice.get(i)).minutes;
                    takings += plays.get(choice.get(i)).takings;
                }
                if (sum <= minutes && (takings > bestTakings || takings == bestTakings && before(set, best))) {
                    best = set;
                    bestTakings = takings;
                }
            }
            int answer = 0;
            for (int play : best) {
                answer |= 1 << play;
            }
            return answer;
        }

        private static boolean before(List<Integer> a, List<Integer> b) {
            for (int i = 0; i < a.size() && i < b.size(); i++) {
                if (!a.get(i).equals(b.get(i))) {
                    return a.get(i) < b.get(i);
                }
            }
            return a.size() < b.size();
        }

        int fact(int item, int day, int holder) {
            if (facts.size() == 200 || !in(item, 0, 19) || !in(day, -100000, 100000) || !in(holder, -2, 11)) {
                return -1;
            }
            facts.add(new int[] {item, day, holder});
            return facts.size() - 1;
        }

        /** 1000 stands for the exception. */
        int where(int item, int day, int n) {
            if (!in(item, 0, 19) || !in(n, 0, facts.size())) {
                return 1000;
            }
            List<int[]> known = new ArrayList<>(facts.subList(0, n));
            known.removeIf(fact -> fact[0] != item || fact[1] > day);
            known.sort((a, b) -> Integer.compare(a[1], b[1]));
            return known.isEmpty() ? -3 : known.get(known.size() - 1)[2];
        }

        int held(int holder, int day) {
            int all = 0;
            for (int item = 0; item < 20; item++) {
                all += holder >= -2 && where(item, day, facts.size()) == holder ? 1 : 0;
            }
            return all;
        }

        int feed(int[] five) {
            if (tape.length() > 780) {
                return -1;
            }
            for (int number : five) {
                for (int i = 3; i >= 0; i--) {
                    tape.append((char) (number >> 8 * i & 255));
                }
            }
            return tape.length();
        }

        int end(int n) {
            if (!in(n, 0, tape.length())) {
                return -1;
            }
            tape.setLength(n);
            return n;
        }

        int terms() {
            split(tape.toString());
            tape = new StringBuilder();
            int fault = fault();
            if (fault == 0) {
                clauses = new ArrayList<>();
                next = 0;
                while (next < tokens.size() - 1) {
                    clauses.add(clause());
                }
            }
            return fault;
        }

        private void split(String text) {
            tokens = new ArrayList<>();
            places = new ArrayList<>();
            java.util.regex.Matcher found = java.util.regex.Pattern.compile("[a-z]+|[0-9]+|>=|[ \n]|(?s:.)").matcher(text);
            while (found.find()) {
                if (!found.group().equals(" ") && !found.group().equals("\n")) {
                    tokens.add(found.group());
                    places.add(found.start());
                }
            }
            tokens.add("");
            places.add(text.length());
        }

        /** What may come next, as a machine with a stack of the nots and brackets that are open. */
        private int fault() {
            StringBuilder open = new StringBuilder();
            String state = "term";
            int terms = 0;
            for (int i = 0; i < tokens.size(); i++) {
                String token = tokens.get(i);
                int refused = 1 + 16 * places.get(i);
                boolean isNumber = token.matches("[0-9]{1,6}");
                switch (state) {
                    case "term":
                        if (token.isEmpty()) {
                            return 0;
                        }
                        if (!List.of("may", "most", "least", "pay").contains(token)) {
                            return refused;
                        }
                        if (++terms == 11) {
                            return refused + 1;
                        }
                        state = token.equals("may") ? "if" : "number";
                        break;
                    case "number":
                        if (!isNumber) {
                            return refused;
                        }
                        state = "if";
                        break;
                    case "if":
                        if (!token.equals("if")) {
                            return refused;
                        }
                        state = "operand";
                        break;
                    case "operand":
                        if (token.equals("not") || token.equals("(")) {
                            if (open.length() == 8) {
                                return refused + 1;
                            }
                            open.append(token.charAt(0));
                        } else if (token.equals("guest")) {
                            closeNots(open);
                            state = "operator";
                        } else if (List.of("age", "years", "fee", "grade", "roles").contains(token)) {
                            state = "sign";
                        } else {
                            return refused;
                        }
                        break;
                    case "sign":
                        if (!token.equals("<") && !token.equals(">=")) {
                            return refused;
                        }
                        state = "limit";
                        break;
                    case "limit":
                        if (!isNumber) {
                            return refused;
                        }
                        closeNots(open);
                        state = "operator";
                        break;
                    default:
                        if (token.equals("and") || token.equals("or")) {
                            state = "operand";
                        } else if (token.equals(")") && open.length() > 0) {
                            open.setLength(open.length() - 1);
                            closeNots(open);
                        } else if (token.equals(";") && open.length() == 0) {
                            state = "term";
                        } else {
                            return refused;
                        }
                        break;
                }
            }
            return 0;
        }

        private static void closeNots(StringBuilder open) {
            while (open.length() > 0 && open.charAt(open.length() - 1) == 'n') {
                open.setLength(open.length() - 1);
            }
        }

        private Clause clause() {
            Clause clause = new Clause();
            clause.word = tokens.get(next++);
            clause.number = clause.word.equals("may") ? 0 : Integer.parseInt(tokens.get(next++));
            next++;
            clause.condition = any();
            next++;
            return clause;
        }

        private Condition any() {
            Condition left = all();
            while (tokens.get(next).equals("or")) {
                next++;
                Condition a = left;
                Condition b = all();
                left = (actor, day) -> a.holds(actor, day) || b.holds(actor, day);
            }
            return left;
        }

        private Condition all() {
            Condition left = one();
            while (tokens.get(next).equals("and")) {
                next++;
                Condition a = left;
                Condition b = one();
                left = (actor, day) -> a.holds(actor, day) && b.holds(actor, day);
            }
            return left;
        }

        private Condition one() {
            String token = tokens.get(next++);
            if (token.equals("not")) {
                Condition of = one();
                return (actor, day) -> !of.holds(actor, day);
            }
            if (token.equals("(")) {
                Condition of = any();
                next++;
                return of;
            }
            if (token.equals("guest")) {
                return (actor, day) -> actors.get(actor).guest;
            }
            boolean less = tokens.get(next++).equals("<");
            int number = Integer.parseInt(tokens.get(next++));
            int what = token.equals("roles") ? 6 : List.of("age", "years", "fee", "grade").indexOf(token);
            return (actor, day) -> less ? about(actor, day, what) < number : about(actor, day, what) >= number;
        }

        int may(int actor, int day) {
            if (!isActor(actor)) {
                return -1;
            }
            for (Clause clause : clauses) {
                if (clause.word.equals("may") && !clause.condition.holds(actor, day)) {
                    return 0;
                }
            }
            return 1;
        }

        int broken(int day) {
            if (castPlay < 0) {
                return -2;
            }
            Set<Integer> playing = new TreeSet<>();
            for (int actor : cast) {
                if (actor >= 0) {
                    playing.add(actor);
                }
            }
            for (int i = 0; i < clauses.size(); i++) {
                Clause clause = clauses.get(i);
                long holding = playing.stream().filter(actor -> clause.condition.holds(actor, day)).count();
                boolean keeps = clause.word.equals("pay")
                        || clause.word.equals("may") && holding == playing.size()
                        || clause.word.equals("most") && holding <= clause.number
                        || clause.word.equals("least") && holding >= clause.number;
                if (!keeps) {
                    return i;
                }
            }
            return -1;
        }

        /** Long.MAX_VALUE stands for the exception. */
        long about(int actor, int day, int what) {
            if (!isActor(actor) || !in(what, 0, 7)) {
                return Long.MAX_VALUE;
            }
            Person p = actors.get(actor);
            long sum = 0;
            switch (what) {
                case 0: return Math.floorDiv((long) day - p.birth, 365L);
                case 1: return Math.floorDiv((long) day - p.joined, 365L);
                case 2: return p.fee;
                case 3: return java.util.Arrays.stream(p.grades).max().getAsInt();
                case 4: return p.guest ? 1 : 0;
                case 5: return p.in ? 1 : 0;
                case 6: return java.util.Arrays.stream(cast).filter(a -> a == actor).count();
                default:
                    for (Clause clause : clauses) {
                        sum += clause.word.equals("pay") && clause.condition.holds(actor, day) ? clause.number : 0;
                    }
                    return sum;
            }
        }

        long count(int what) {
            switch (what) {
                case 0: return actors.size();
                case 1: return plays.size();
                case 2: return facts.size();
                case 3: return clauses.size();
                case 4: return castPlay;
                case 5: return week.size();
                case 6: return tape.length();
                case 7: return actors.stream().filter(p -> p.in).count();
                default: return -1;
            }
        }
    }
}
