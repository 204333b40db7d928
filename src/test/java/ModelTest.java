import java.util.ArrayDeque;
import java.util.ArrayList;
import java.util.Arrays;
import java.util.Collections;
import java.util.Deque;
import java.util.HashSet;
import java.util.List;
import java.util.Random;
import java.util.Set;
import java.util.TreeSet;
import java.util.regex.Matcher;
import java.util.regex.Pattern;

/** Runs of calls by a fixed seed, beside a model that is written from the document in another manner. */
public final class ModelTest {
    private static final int BAD = -1, NO = -2, FULL = -3, NONE = -4;
    private static final int RUNS = 150, CALLS = 500;
    private static final Checks checks = new Checks();

    public static void main(String[] args) {
        for (int run = 0; run < RUNS; run++) {
            checks.part("run " + run);
            new Run(run).go();
        }
        checks.end();
    }

    /** All that changes with the days, as one value that is copied whole. */
    private static final class State {
        int day = 0;
        List<Integer> worn = new ArrayList<>();
        List<Integer> kinds = new ArrayList<>();
        Set<Integer> held = new TreeSet<>();
        int[] earned = new int[6];
        int[] wrong = new int[6];
        int[][] had = new int[6][5];

        State copy() {
            State s = new State();
            s.day = day;
            s.worn = new ArrayList<>(worn);
            s.kinds = new ArrayList<>(kinds);
            s.held = new TreeSet<>(held);
            s.earned = earned.clone();
            s.wrong = wrong.clone();
            for (int i = 0; i < 6; i++) {
                s.had[i] = had[i].clone();
            }
            return s;
        }

        int kindOn(int i) {
            return kinds.get(worn.get(i));
        }
    }

    private static final class Kind {
        int rights, wage, many;
        boolean locked;
    }

    private static final class Person {
        int skills;
        String worth = "00000";
    }

    private static final class Sight {
        final int i, d;
        final boolean rightly;

        Sight(int i, int d, boolean rightly) {
            this.i = i;
            this.d = d;
            this.rightly = rightly;
        }
    }

    /** The town of a text, read by patterns. */
    private static final class Reading {
        private static final String NUMBER = "([0-9]{1,3})";
        private static final Pattern KIND = Pattern.compile("k" + NUMBER + "," + NUMBER + "," + NUMBER + ";");
        private static final Pattern ONE = Pattern.compile("([pdl])" + NUMBER + ";");
        private static final Pattern WORTH = Pattern.compile("w([0-9]*);");
        final List<Kind> kinds = new ArrayList<>();
        final List<Person> persons = new ArrayList<>();
        int work = 0;
        int fault = NONE;

        Reading(String text) {
            int place = 0;
            while (place < text.length() && fault == NONE) {
                int end = item(text.substring(place));
                if (end < 0) {
                    fault = place;
                }
                place += end;
            }
        }

        int item(String rest) {
            Matcher m = KIND.matcher(rest);
            if (m.lookingAt()) {
                return kind(m) ? m.end() : -1;
            }
            m = WORTH.matcher(rest);
            if (m.lookingAt()) {
                if (persons.isEmpty() || m.group(1).length() != kinds.size()) {
                    return -1;
                }
                persons.get(persons.size() - 1).worth = m.group(1);
                return m.end();
            }
            m = ONE.matcher(rest);
            return m.lookingAt() && one(m.group(1), Integer.parseInt(m.group(2))) ? m.end() : -1;
        }

        boolean kind(Matcher m) {
            Kind k = new Kind();
            k.rights = Integer.parseInt(m.group(1));
            k.wage = Integer.parseInt(m.group(2));
            k.many = Integer.parseInt(m.group(3));
            kinds.add(k);
            return k.rights <= 63 && k.wage <= 99 && k.many >= 1 && k.many <= 6
                && kinds.size() <= 5 && persons.isEmpty();
        }

        boolean one(String letter, int number) {
            if (letter.equals("l")) {
                if (number >= kinds.size()) {
                    return false;
                }
                kinds.get(number).locked = true;
                return true;
            }
            if (number > 63) {
                return false;
            }
            if (letter.equals("d")) {
                work = number;
                return true;
            }
            Person p = new Person();
            p.skills = number;
            persons.add(p);
            return persons.size() <= 6;
        }

        boolean isTown() {
            return fault == NONE && !kinds.isEmpty() && !persons.isEmpty()
                && kinds.stream().mapToInt(k -> k.many).sum() == persons.size();
        }
    }

    private static final class Model {
        final StringBuilder text = new StringBuilder();
        Reading town;
        State now;
        final Deque<State> past = new ArrayDeque<>();
        final Deque<State> kept = new ArrayDeque<>();
        final List<Sight> sights = new ArrayList<>();
        List<List<Integer>> ways = new ArrayList<>();

        Model() {
            found(new Reading("k1,9,1;k2,5,1;p3;p3;"));
        }

        void found(Reading reading) {
            town = reading;
            now = new State();
            for (int k = 0; k < town.kinds.size(); k++) {
                now.kinds.addAll(Collections.nCopies(town.kinds.get(k).many, k));
            }
            for (int i = 0; i < town.persons.size(); i++) {
                now.worn.add(i);
            }
            past.clear();
            kept.clear();
            sights.clear();
            ways = new ArrayList<>();
            permute(new ArrayList<>());
        }

        void permute(List<Integer> taken) {
            if (taken.size() == now.worn.size()) {
                ways.add(List.copyOf(taken));
                return;
            }
            for (int m = 0; m < now.worn.size(); m++) {
                if (!taken.contains(m)) {
                    taken.add(m);
                    permute(taken);
                    taken.remove(taken.size() - 1);
                }
            }
        }

        boolean person(int i) {
            return i >= 0 && i < town.persons.size();
        }

        boolean kind(int k) {
            return k >= 0 && k < town.kinds.size();
        }

        int write(int n, long v) {
            if (n < 1 || n > 8) {
                return BAD;
            }
            if (text.length() + n > 300) {
                return FULL;
            }
            byte[] all = java.nio.ByteBuffer.allocate(8).putLong(v).array();
            for (byte b : Arrays.copyOfRange(all, 8 - n, 8)) {
                text.append((char) (b & 255));
            }
            return text.length();
        }

        int wipe() {
            int n = text.length();
            text.setLength(0);
            return n;
        }

        int lay() {
            Reading reading = new Reading(text.toString());
            if (!reading.isTown()) {
                return NO;
            }
            found(reading);
            return town.persons.size();
        }

        int person(int i, int what) {
            if (!person(i) || what < 0 || what > 5) {
                return BAD;
            }
            return new int[] {town.persons.get(i).skills, now.worn.get(i), now.kindOn(i), now.earned[i],
                now.wrong[i], now.held.contains(i) ? 1 : 0}[what];
        }

        int mask(int m, int what) {
            if (!person(m) || what < 0 || what > 2) {
                return BAD;
            }
            Kind k = town.kinds.get(now.kinds.get(m));
            return new int[] {now.kinds.get(m), k.wage, k.rights}[what];
        }

        void remember() {
            past.push(now.copy());
            if (past.size() > 8) {
                past.removeLast();
            }
        }

        void pass(State s, int z) {
            int n = s.worn.size();
            for (int i = 0; i < n; i++) {
                s.earned[i] += town.kinds.get(s.kindOn(i)).wage;
                s.had[i][s.kindOn(i)]++;
            }
            s.day++;
            for (int k = n - 1; k >= 1; k--) {
                long x = 7919L * z + 6151L * k + 3571L * s.day + 1;
                Collections.swap(s.worn, k, (int) (((x % 65521) * (x % 65521)) % 65521) % (k + 1));
            }
        }

        int dawn(int z) {
            if (z < 0 || z > 9999) {
                return BAD;
            }
            remember();
            pass(now, z);
            return now.day;
        }

        boolean locked(State s, int i) {
            return town.kinds.get(s.kindOn(i)).locked;
        }

        int change(int i, int j) {
            if (!person(i) || !person(j) || i == j) {
                return BAD;
            }
            if (locked(now, i) || locked(now, j)) {
                return NO;
            }
            remember();
            Collections.swap(now.worn, i, j);
            return now.kindOn(i);
        }

        boolean could(int i, int kind, int d) {
            return (town.persons.get(i).skills >> d) % 2 == 1 && (town.kinds.get(kind).rights >> d) % 2 == 1;
        }

        int deed(int i, int d) {
            if (!person(i) || d < 0 || d > 5) {
                return BAD;
            }
            remember();
            boolean rightly = could(i, now.kindOn(i), d);
            now.wrong[i] += rightly ? 0 : 1;
            return rightly ? 1 : 0;
        }

        int judge(int i, int j, boolean holds) {
            if (!person(i) || !person(j)) {
                return BAD;
            }
            if (now.kindOn(i) != 0 || now.held.contains(j) == holds) {
                return NO;
            }
            remember();
            if (holds) {
                now.held.add(j);
            } else {
                now.held.remove(j);
            }
            return now.held.size();
        }

        int undo() {
            if (past.isEmpty()) {
                return NO;
            }
            now = past.pop();
            return past.size();
        }

        int able(List<Integer> kinds) {
            int many = 0;
            for (List<Integer> way : ways) {
                boolean all = true;
                for (int d = 0; d < 6; d++) {
                    if ((town.work >> d) % 2 == 1) {
                        boolean some = false;
                        for (int i = 0; i < way.size(); i++) {
                            some |= could(i, kinds.get(way.get(i)), d);
                        }
                        all &= some;
                    }
                }
                many += all ? 1 : 0;
            }
            return many;
        }

        int chance(int part) {
            if (part != 0 && part != 1) {
                return BAD;
            }
            int above = able(now.kinds);
            for (int by = ways.size(); by > 1; by--) {
                if (above % by == 0 && ways.size() % by == 0) {
                    return (part == 0 ? above : ways.size()) / by;
                }
            }
            return part == 0 ? above : ways.size();
        }

        int anew(int what) {
            if (what != 0 && what != 1) {
                return BAD;
            }
            int best = able(now.kinds);
            int answer = NONE;
            for (int m = 0; m < now.kinds.size(); m++) {
                for (int k = 0; k < town.kinds.size(); k++) {
                    List<Integer> kinds = new ArrayList<>(now.kinds);
                    kinds.set(m, k);
                    int here = able(kinds);
                    if (here > best) {
                        best = here;
                        answer = what == 0 ? m : k;
                    }
                }
            }
            return answer;
        }

        int worth(int i, int kind) {
            return town.persons.get(i).worth.charAt(kind) - '0';
        }

        List<Integer> liked(State s) {
            List<Integer> all = new ArrayList<>();
            for (int ij = 0; ij < 60; ij++) {
                int i = ij / 10, j = ij % 10;
                if (i < j && person(j) && !locked(s, i) && !locked(s, j)
                    && worth(i, s.kindOn(j)) > worth(i, s.kindOn(i))
                    && worth(j, s.kindOn(i)) > worth(j, s.kindOn(j))) {
                    all.add(ij);
                }
            }
            return all;
        }

        int liked(int what) {
            List<Integer> all = liked(now);
            return what == 0 ? all.size() : what != 1 ? BAD : all.isEmpty() ? NONE : all.get(0);
        }

        int allChange(int i) {
            if (i != -1 && !person(i)) {
                return BAD;
            }
            State s = now.copy();
            int times = 0;
            for (List<Integer> all = liked(s); !all.isEmpty(); all = liked(s)) {
                Collections.swap(s.worn, all.get(0) / 10, all.get(0) % 10);
                times++;
            }
            return i == -1 ? times : s.kindOn(i);
        }

        int rounds(int who) {
            if (!person(who)) {
                return BAD;
            }
            Set<Integer> left = new TreeSet<>();
            for (int i = 0; i < now.worn.size(); i++) {
                left.add(i);
            }
            while (true) {
                int[] to = new int[6];
                for (int i : left) {
                    to[i] = pointed(i, left);
                }
                Set<Integer> inRings = new HashSet<>(left);
                for (int turn = 0; turn < 7; turn++) {
                    Set<Integer> next = new HashSet<>();
                    for (int i : inRings) {
                        next.add(to[i]);
                    }
                    inRings = next;
                }
                if (inRings.contains(who)) {
                    return now.worn.get(to[who]);
                }
                left.removeAll(inRings);
            }
        }

        int pointed(int i, Set<Integer> left) {
            if (locked(now, i)) {
                return i;
            }
            int most = 0;
            for (int j : left) {
                most = locked(now, j) ? most : Math.max(most, worth(i, now.kindOn(j)));
            }
            if (worth(i, now.kindOn(i)) == most) {
                return i;
            }
            for (int j : left) {
                if (!locked(now, j) && worth(i, now.kindOn(j)) == most) {
                    return j;
                }
            }
            throw new IllegalStateException();
        }

        int seen(int i, int d, boolean rightly) {
            if (!person(i) || d < 0 || d > 5) {
                return BAD;
            }
            if (sights.size() == 10) {
                return FULL;
            }
            sights.add(new Sight(i, d, rightly));
            return sights.size();
        }

        int forget() {
            int n = sights.size();
            sights.clear();
            return n;
        }

        List<List<Integer>> fitting() {
            List<List<Integer>> all = new ArrayList<>();
            for (List<Integer> way : ways) {
                if (sights.stream().allMatch(s -> could(s.i, now.kinds.get(way.get(s.i)), s.d) == s.rightly)) {
                    all.add(way);
                }
            }
            return all;
        }

        int sure(int i) {
            if (!person(i)) {
                return BAD;
            }
            Set<Integer> kinds = new HashSet<>();
            fitting().forEach(way -> kinds.add(now.kinds.get(way.get(i))));
            return kinds.size() == 1 ? kinds.iterator().next() : NONE;
        }

        int sum(List<Integer> way) {
            int sum = 0;
            for (int i = 0; i < way.size(); i++) {
                sum += now.had[i][now.kinds.get(way.get(i))];
            }
            return sum;
        }

        int fairest(int i) {
            if (i != -1 && !person(i)) {
                return BAD;
            }
            List<Integer> best = Collections.min(ways, java.util.Comparator.comparingInt(this::sum));
            return i == -1 ? sum(best) : best.get(i);
        }

        int make(int m, int k) {
            if (!person(m) || !kind(k)) {
                return BAD;
            }
            remember();
            return now.kinds.set(m, k);
        }

        int falseOne() {
            for (int k = 0; k < town.kinds.size(); k++) {
                if (Collections.frequency(now.kinds, k) > town.kinds.get(k).many) {
                    return k;
                }
            }
            return NONE;
        }

        int year(int z, int n, int i, int k) {
            if (z < 0 || z > 9999 || n < 1 || n > 60 || !person(i) || k != -1 && !kind(k)) {
                return BAD;
            }
            State s = now.copy();
            for (int d = 0; d < n; d++) {
                pass(s, (z + d) % 10000);
            }
            return k == -1 ? s.earned[i] : s.had[i][k];
        }

        int keep() {
            if (kept.size() == 2) {
                return FULL;
            }
            kept.push(now.copy());
            return kept.size();
        }

        int back() {
            if (kept.isEmpty()) {
                return NO;
            }
            now = kept.pop();
            past.clear();
            return kept.size();
        }

        int count(int what) {
            if (what < 0 || what > 7) {
                return BAD;
            }
            return new int[] {town.persons.size(), town.kinds.size(), now.day, now.held.size(), sights.size(),
                past.size(), kept.size(), text.length()}[what];
        }
    }

    /** One object and one model under the same calls. */
    private static final class Run {
        final Random random;
        final MasksAtDawn x = new MasksAtDawn();
        final Model m = new Model();

        Run(int seed) {
            random = new Random(seed * 7919L + 1);
        }

        void go() {
            if (random.nextInt(8) != 0) {
                town(true);
            }
            for (int call = 0; call < CALLS - 80; call++) {
                any();
            }
        }

        int in(int from, int to) {
            return from + random.nextInt(to - from + 1);
        }

        /** Now and then one that is beside all bounds. */
        int near(int from, int to) {
            int which = random.nextInt(60);
            return which == 0 ? Integer.MIN_VALUE : which == 1 ? Integer.MAX_VALUE
                : which == 2 ? from - 1 : which == 3 ? to + 1 : in(from, to);
        }

        int who() {
            return near(0, m.town.persons.size() - 1);
        }

        int kind() {
            return near(0, m.town.kinds.size() - 1);
        }

        void due(String call, int got, int want) {
            checks.due(call, got, want);
        }

        void any() {
            switch (random.nextInt(12)) {
                case 0: case 1: case 2: days(); break;
                case 3: case 4: judges(); break;
                case 5: case 6: looks(); break;
                case 7: likes(); break;
                case 8: sights(); break;
                case 9: lots(); break;
                case 10: keeps(); break;
                default: texts(); break;
            }
        }

        void days() {
            int i = who(), j = who(), d = near(0, 5), z = near(0, 9999), k = kind();
            switch (random.nextInt(4)) {
                case 0: due("dawn " + z, x.dawn(z), m.dawn(z)); break;
                case 1: due("change " + i + " " + j, x.change(i, j), m.change(i, j)); break;
                case 2: due("deed " + i + " " + d, x.deed(i, d), m.deed(i, d)); break;
                default: due("make " + i + " " + k, x.make(i, k), m.make(i, k)); break;
            }
        }

        void judges() {
            int i = who(), j = who();
            if (random.nextInt(3) != 0) {
                i = Math.max(0, m.now.worn.indexOf(m.now.kinds.indexOf(0)));
            }
            if (random.nextBoolean()) {
                due("sentence " + i + " " + j, x.sentence(i, j), m.judge(i, j, true));
            } else {
                due("pardon " + i + " " + j, x.pardon(i, j), m.judge(i, j, false));
            }
        }

        void looks() {
            int i = who(), k = kind(), what = near(0, 5), w = near(0, 2), c = near(0, 7);
            due("person " + i + " " + what, x.person(i, what), m.person(i, what));
            due("had " + i + " " + k, x.had(i, k), m.person(i) && m.kind(k) ? m.now.had[i][k] : BAD);
            due("mask " + i + " " + w, x.mask(i, w), m.mask(i, w));
            due("count " + c, x.count(c), m.count(c));
        }

        void likes() {
            int i = who(), what = near(0, 1), p = near(-1, m.town.persons.size() - 1);
            due("liked " + what, x.liked(what), m.liked(what));
            due("allChange " + p, x.allChange(p), m.allChange(p));
            due("rounds " + i, x.rounds(i), m.rounds(i));
            due("chance " + what, x.chance(what), m.chance(what));
            if (random.nextInt(4) == 0) {
                due("anew " + what, x.anew(what), m.anew(what));
            }
        }

        void sights() {
            int i = who(), d = near(0, 5);
            boolean rightly = random.nextInt(3) == 0;
            switch (random.nextInt(8)) {
                case 0: due("forget", x.forget(), m.forget()); break;
                case 1: case 2: case 3:
                    due("seen " + i + " " + d + " " + rightly, x.seen(i, d, rightly), m.seen(i, d, rightly));
                    break;
                default:
                    due("fits", x.fits(), m.fitting().size());
                    due("sure " + i, x.sure(i), m.sure(i));
                    break;
            }
        }

        void lots() {
            int i = who(), p = near(-1, m.town.persons.size() - 1), k = near(-1, m.town.kinds.size() - 1);
            int z = near(0, 9999), n = near(1, 60);
            due("fairest " + p, x.fairest(p), m.fairest(p));
            due("falseOne", x.falseOne(), m.falseOne());
            due("year " + z + " " + n + " " + i + " " + k, x.year(z, n, i, k), m.year(z, n, i, k));
        }

        void keeps() {
            switch (random.nextInt(6)) {
                case 0: due("keep", x.keep(), m.keep()); break;
                case 1: due("back", x.back(), m.back()); break;
                default: due("undo", x.undo(), m.undo()); break;
            }
        }

        void texts() {
            switch (random.nextInt(30)) {
                case 0: town(true); break;
                case 1: case 2: town(false); break;
                case 3: due("lay", x.lay(), m.lay()); break;
                case 4: due("wipe", x.wipe(), m.wipe()); break;
                case 5: case 6: case 7: piece("kpwdl".charAt(random.nextInt(5)) + "0;"); break;
                case 8:
                    int n = near(1, 8);
                    long v = random.nextLong();
                    due("write " + n, x.write(n, v), m.write(n, v));
                    break;
                default: due("fault", x.fault(), new Reading(m.text.toString()).fault); break;
            }
        }

        void town(boolean whole) {
            due("wipe", x.wipe(), m.wipe());
            StringBuilder text = new StringBuilder(randomTown());
            for (int spoiled = whole ? 0 : in(1, 2); spoiled > 0 && text.length() > 0; spoiled--) {
                int place = random.nextInt(text.length());
                switch (random.nextInt(3)) {
                    case 0: text.deleteCharAt(place); break;
                    case 1: text.insert(place, "0123456789,;kpwdl".charAt(random.nextInt(17))); break;
                    default: text.setCharAt(place, (char) random.nextInt(256)); break;
                }
            }
            for (int from = 0; from < text.length(); from += 8) {
                piece(text.substring(from, Math.min(from + 8, text.length())));
            }
            due("fault of " + text, x.fault(), new Reading(m.text.toString()).fault);
            due("lay of " + text, x.lay(), m.lay());
        }

        void piece(String bytes) {
            long v = random.nextLong();
            for (int b = 0; b < bytes.length(); b++) {
                v = v << 8 | bytes.charAt(b);
            }
            due("write " + bytes, x.write(bytes.length(), v), m.write(bytes.length(), v));
        }

        String randomTown() {
            int persons = in(1, 6);
            int kinds = in(1, Math.min(5, persons));
            int[] many = new int[kinds];
            Arrays.fill(many, 1);
            for (int more = persons - kinds; more > 0; more--) {
                many[random.nextInt(kinds)]++;
            }
            StringBuilder text = new StringBuilder();
            for (int k = 0; k < kinds; k++) {
                text.append("k" + in(0, 63) + "," + in(0, 99) + "," + many[k] + ";");
            }
            for (int i = 0; i < persons; i++) {
                text.append("p" + (in(0, 63) | in(0, 63)) + ";");
                for (int w = in(0, 8) == 0 ? 0 : 1; w > 0; w--) {
                    text.append("w");
                    for (int k = 0; k < kinds; k++) {
                        text.append(in(0, 9));
                    }
                    text.append(";");
                }
            }
            text.append("d" + (in(0, 63) & in(0, 63)) + ";");
            if (random.nextBoolean()) {
                text.append("l" + in(0, kinds - 1) + ";");
            }
            return text.toString();
        }
    }
}
