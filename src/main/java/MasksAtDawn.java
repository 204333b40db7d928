/** A town in which everybody is, from dawn till dusk, the mask that he wears. */
public final class MasksAtDawn {
    public static final int BAD = -1, NO = -2, FULL = -3, NONE = -4;

    private static final int MOST_BYTES = 300, MOST_KINDS = 5, MOST_PERSONS = 6;
    private static final int MOST_BITS = 63, MOST_WAGE = 99, MOST_WORTH = 9, DEEDS = 6;
    private static final int DRAWS = 10000, LAST_DAY = 9999, MOST_DAYS = 60;
    private static final int MOST_SEEN = 10, MOST_UNDONE = 8, MOST_KEPT = 2;
    /** Each change that is LIKED adds to what all masks are worth to who wears them. */
    private static final int MOST_CHANGES = MOST_PERSONS * MOST_WORTH;

    private final Text text = new Text();
    private Town town = new Town();
    private Town draft = new Town();
    private final Day today = new Day();
    private final Day supposed = new Day();
    private final Shelf past = new Shelf(MOST_UNDONE);
    private final Shelf kept = new Shelf(MOST_KEPT);
    private final Sightings sightings = new Sightings();
    private final Ways ways = new Ways();
    private final Alley alley = new Alley();

    public MasksAtDawn() {
        town.addKind(1, 9, 1);
        town.addKind(2, 5, 1);
        town.addPerson(3);
        town.addPerson(3);
        today.begin(town);
    }

    // ---- towns

    public int write(int n, long v) {
        if (!isWithin(n, 1, 8)) {
            return BAD;
        }
        return text.append(n, v) ? text.length : FULL;
    }

    public int wipe() {
        int length = text.length;
        text.length = 0;
        return length;
    }

    public int fault() {
        return text.readInto(draft);
    }

    public int lay() {
        if (text.readInto(draft) != NONE || !draft.canBeLaid()) {
            return NO;
        }
        Town old = town;
        town = draft;
        draft = old;
        today.begin(town);
        past.size = 0;
        kept.size = 0;
        sightings.clear();
        return town.persons;
    }

    public int person(int i, int what) {
        if (!isPerson(i)) {
            return BAD;
        }
        switch (what) {
            case 0: return town.skills[i];
            case 1: return today.worn[i];
            case 2: return today.kindWornBy(i);
            case 3: return today.earned[i];
            case 4: return today.wrong[i];
            case 5: return has(today.held, i) ? 1 : 0;
            default: return BAD;
        }
    }

    public int had(int i, int kind) {
        return isPerson(i) && isKind(kind) ? today.timesHad(i, kind) : BAD;
    }

    public int mask(int m, int what) {
        if (!isMask(m)) {
            return BAD;
        }
        int kind = today.kindOf[m];
        switch (what) {
            case 0: return kind;
            case 1: return at(town.wages, kind);
            case 2: return at(town.rights, kind);
            default: return BAD;
        }
    }

    // ---- days

    public int dawn(int z) {
        if (!isDraw(z)) {
            return BAD;
        }
        if (today.number >= LAST_DAY) {
            return NO;
        }
        past.push(today);
        today.turn(town, z);
        return today.number;
    }

    public int change(int i, int j) {
        if (!isPerson(i) || !isPerson(j) || i == j) {
            return BAD;
        }
        if (!mayChangeHands(i) || !mayChangeHands(j)) {
            return NO;
        }
        past.push(today);
        swap(today.worn, i, j);
        return today.kindWornBy(i);
    }

    public int deed(int i, int d) {
        if (!isPerson(i) || !isDeed(d)) {
            return BAD;
        }
        past.push(today);
        if (has(town.rightDeeds(i, today.kindWornBy(i)), d)) {
            return 1;
        }
        today.wrong[i]++;
        return 0;
    }

    public int sentence(int i, int j) {
        if (!isPerson(i) || !isPerson(j)) {
            return BAD;
        }
        if (!isJudge(i) || has(today.held, j)) {
            return NO;
        }
        past.push(today);
        today.held |= 1 << j;
        return today.howManyHeld();
    }

    public int pardon(int i, int j) {
        if (!isPerson(i) || !isPerson(j)) {
            return BAD;
        }
        if (!isJudge(i) || !has(today.held, j)) {
            return NO;
        }
        past.push(today);
        today.held &= ~(1 << j);
        return today.howManyHeld();
    }

    public int undo() {
        return past.popInto(today) ? past.size : NO;
    }

    // ---- chances

    public int chance(int part) {
        if (!isWithin(part, 0, 1)) {
            return BAD;
        }
        int above = ways.doingAllWork(town, today);
        int below = ways.total;
        int divisor = Math.max(1, commonDivisor(above, below));
        return (part == 0 ? above : below) / divisor;
    }

    public int anew(int what) {
        if (!isWithin(what, 0, 1)) {
            return BAD;
        }
        int best = bestAnew();
        if (best == NONE) {
            return NONE;
        }
        return what == 0 ? best / MOST_KINDS : best % MOST_KINDS;
    }

    // ---- who would change

    public int liked(int what) {
        if (!isWithin(what, 0, 1)) {
            return BAD;
        }
        alley.enter(town, today);
        return what == 0 ? alley.howManyLiked() : alley.firstLiked();
    }

    public int allChange(int i) {
        if (i != -1 && !isPerson(i)) {
            return BAD;
        }
        alley.enter(town, today);
        int times = alley.changeAllLiked();
        return i == -1 ? times : alley.kindWornBy(i);
    }

    public int rounds(int i) {
        if (!isPerson(i)) {
            return BAD;
        }
        alley.enter(town, today);
        alley.goRound();
        return alley.taken[i];
    }

    // ---- who is who

    public int seen(int i, int d, boolean rightly) {
        if (!isPerson(i) || !isDeed(d)) {
            return BAD;
        }
        return sightings.add(i, d, rightly) ? sightings.size : FULL;
    }

    public int forget() {
        int size = sightings.size;
        sightings.clear();
        return size;
    }

    public int fits() {
        return ways.fitting(town, today, sightings);
    }

    public int sure(int i) {
        return isPerson(i) ? ways.sureKind(town, today, sightings, i) : BAD;
    }

    // ---- fair lots, false masks

    public int fairest(int i) {
        if (i != -1 && !isPerson(i)) {
            return BAD;
        }
        int sum = ways.findFairest(town, today);
        return i == -1 ? sum : ways.best[i];
    }

    public int make(int m, int kind) {
        if (!isMask(m) || !isKind(kind)) {
            return BAD;
        }
        int old = today.kindOf[m];
        past.push(today);
        today.kindOf[m] = kind;
        return old;
    }

    public int falseOne() {
        for (int kind = 0; kind < town.kinds; kind++) {
            int many = 0;
            for (int m = 0; m < town.persons; m++) {
                many += today.kindOf[m] == kind ? 1 : 0;
            }
            if (many > town.told[kind]) {
                return kind;
            }
        }
        return NONE;
    }

    public int year(int z, int n, int i, int kind) {
        if (!isDraw(z) || !isWithin(n, 1, MOST_DAYS) || !isPerson(i) || kind != -1 && !isKind(kind)) {
            return BAD;
        }
        supposed.copyFrom(today);
        for (int d = 0; d < n; d++) {
            supposed.turn(town, (z + d) % DRAWS);
        }
        return kind == -1 ? supposed.earned[i] : supposed.timesHad(i, kind);
    }

    public int keep() {
        if (kept.size >= MOST_KEPT) {
            return FULL;
        }
        kept.push(today);
        return kept.size;
    }

    public int back() {
        if (!kept.popInto(today)) {
            return NO;
        }
        past.size = 0;
        return kept.size;
    }

    public int count(int what) {
        switch (what) {
            case 0: return town.persons;
            case 1: return town.kinds;
            case 2: return today.number;
            case 3: return today.howManyHeld();
            case 4: return sightings.size;
            case 5: return past.size;
            case 6: return kept.size;
            case 7: return text.length;
            default: return BAD;
        }
    }

    // ---- what the calls share

    private boolean isPerson(int i) {
        return i >= 0 && i < town.persons;
    }

    /** A LAID town has as many MASKS as PERSONS. */
    private boolean isMask(int m) {
        return m >= 0 && m < town.persons;
    }

    private boolean isKind(int kind) {
        return kind >= 0 && kind < town.kinds;
    }

    private static boolean isDeed(int d) {
        return d >= 0 && d < DEEDS;
    }

    private static boolean isDraw(int z) {
        return z >= 0 && z < DRAWS;
    }

    private boolean isJudge(int i) {
        return today.kindWornBy(i) == 0;
    }

    private boolean mayChangeHands(int i) {
        return !has(town.locked, today.kindWornBy(i));
    }

    /** MASK and KIND of ANEW as one number (MASK times MOST_KINDS, and KIND), or NONE. */
    private int bestAnew() {
        int greatest = ways.doingAllWork(town, today);
        int best = NONE;
        supposed.copyFrom(today);
        for (int m = 0; m < town.persons && greatest < ways.total; m++) {
            for (int kind = 0; kind < town.kinds; kind++) {
                supposed.kindOf[m] = kind;
                int able = ways.doingAllWork(town, supposed);
                if (able > greatest) {
                    greatest = able;
                    best = m * MOST_KINDS + kind;
                }
            }
            supposed.kindOf[m] = today.kindOf[m];
        }
        return best;
    }

    private static boolean isWithin(int number, int least, int most) {
        return number >= least && number <= most;
    }

    private static boolean has(int bits, int bit) {
        return (bits >> bit & 1) == 1;
    }

    /** Numbers that come out of other rows are looked at here before they are an index. */
    private static int at(int[] row, int i) {
        return i >= 0 && i < row.length ? row[i] : 0;
    }

    private static void swap(int[] row, int i, int j) {
        if (isWithin(i, 0, row.length - 1) && isWithin(j, 0, row.length - 1)) {
            int old = row[i];
            row[i] = row[j];
            row[j] = old;
        }
    }

    private static int commonDivisor(int a, int b) {
        for (int step = 0; step < 64 && b != 0; step++) {
            int rest = a % b;
            a = b;
            b = rest;
        }
        return a;
    }

    /** THE TEXT, and how it is read. */
    private static final class Text {
        final int[] bytes = new int[MOST_BYTES];
        int length;
        int place;

        boolean append(int n, long v) {
            if (length + n > MOST_BYTES) {
                return false;
            }
            for (int left = n - 1; left >= 0; left--) {
                bytes[length] = (int) (v >>> 8 * left) & 255;
                length++;
            }
            return true;
        }

        /** FAULT, or NONE: then the town is what THE TEXT tells. */
        int readInto(Town town) {
            town.clear();
            place = 0;
            for (int items = 0; items < MOST_BYTES && place < length; items++) {
                int start = place;
                if (!readItem(town)) {
                    return start;
                }
            }
            return NONE;
        }

        boolean readItem(Town town) {
            switch (nextByte()) {
                case 'k': return readKind(town);
                case 'p': return town.addPerson(readNumber(0, MOST_BITS, ';'));
                case 'w': return readWorths(town);
                case 'd': return readWork(town);
                case 'l': return town.lock(readNumber(0, MOST_KINDS, ';'));
                default: return false;
            }
        }

        /** Behind a number that is not so the others may be read anyhow: the ITEM is not so already. */
        boolean readKind(Town town) {
            int rights = readNumber(0, MOST_BITS, ',');
            int wage = readNumber(0, MOST_WAGE, ',');
            int many = readNumber(1, MOST_PERSONS, ';');
            return town.addKind(rights, wage, many);
        }

        boolean readWorths(Town town) {
            if (town.persons == 0) {
                return false;
            }
            for (int kind = 0; kind < town.kinds; kind++) {
                int worth = figure(nextByte());
                if (worth < 0) {
                    return false;
                }
                town.setWorth(kind, worth);
            }
            return nextByte() == ';';
        }

        boolean readWork(Town town) {
            town.work = readNumber(0, MOST_BITS, ';');
            return town.work >= 0;
        }

        /** A number of one to three figures and the sign behind it, or -1 if they are not so. */
        int readNumber(int least, int most, char end) {
            int number = figure(nextByte());
            if (number < 0) {
                return -1;
            }
            int sign = nextByte();
            for (int figures = 1; figures < 3 && figure(sign) >= 0; figures++) {
                number = 10 * number + figure(sign);
                sign = nextByte();
            }
            return sign == end && isWithin(number, least, most) ? number : -1;
        }

        int nextByte() {
            if (place < 0 || place >= length || place >= MOST_BYTES) {
                return -1;
            }
            int next = bytes[place];
            place++;
            return next;
        }

        static int figure(int sign) {
            return sign >= '0' && sign <= '9' ? sign - '0' : -1;
        }
    }

    /** What a TEXT tells. Numbers below 0 stand for such as were not so in it. */
    private static final class Town {
        int kinds;
        int persons;
        int masks;
        int work;
        int locked;
        final int[] rights = new int[MOST_KINDS];
        final int[] wages = new int[MOST_KINDS];
        final int[] told = new int[MOST_KINDS];
        final int[] skills = new int[MOST_PERSONS];
        final int[] worths = new int[MOST_PERSONS * MOST_KINDS];

        void clear() {
            kinds = 0;
            persons = 0;
            masks = 0;
            work = 0;
            locked = 0;
        }

        boolean addKind(int rightsOfIt, int wage, int many) {
            if (rightsOfIt < 0 || wage < 0 || many < 0 || kinds >= MOST_KINDS || persons > 0) {
                return false;
            }
            rights[kinds] = rightsOfIt;
            wages[kinds] = wage;
            told[kinds] = many;
            masks += many;
            kinds++;
            return true;
        }

        boolean addPerson(int skillsOfHim) {
            if (skillsOfHim < 0 || persons >= MOST_PERSONS) {
                return false;
            }
            skills[persons] = skillsOfHim;
            persons++;
            for (int kind = 0; kind < MOST_KINDS; kind++) {
                setWorth(kind, 0);
            }
            return true;
        }

        /** To the PERSON told last. */
        void setWorth(int kind, int worth) {
            int place = (persons - 1) * MOST_KINDS + kind;
            if (isWithin(place, 0, worths.length - 1)) {
                worths[place] = worth;
            }
        }

        boolean lock(int kind) {
            if (kind < 0 || kind >= kinds) {
                return false;
            }
            locked |= 1 << kind;
            return true;
        }

        boolean canBeLaid() {
            return kinds > 0 && persons > 0 && masks == persons;
        }

        /** The DEEDS that a PERSON does RIGHTLY in a mask of a KIND. */
        int rightDeeds(int i, int kind) {
            return at(skills, i) & at(rights, kind);
        }
    }

    /** All of a DAY. */
    private static final class Day {
        int number;
        int held;
        final int[] worn = new int[MOST_PERSONS];
        final int[] kindOf = new int[MOST_PERSONS];
        final int[] earned = new int[MOST_PERSONS];
        final int[] wrong = new int[MOST_PERSONS];
        final int[] times = new int[MOST_PERSONS * MOST_KINDS];

        void begin(Town town) {
            number = 0;
            held = 0;
            for (int i = 0; i < MOST_PERSONS; i++) {
                worn[i] = i;
                kindOf[i] = 0;
                earned[i] = 0;
                wrong[i] = 0;
            }
            for (int t = 0; t < times.length; t++) {
                times[t] = 0;
            }
            int m = 0;
            for (int kind = 0; kind < town.kinds; kind++) {
                for (int many = 0; many < town.told[kind] && m < MOST_PERSONS; many++) {
                    kindOf[m] = kind;
                    m++;
                }
            }
        }

        void copyFrom(Day other) {
            number = other.number;
            held = other.held;
            System.arraycopy(other.worn, 0, worn, 0, MOST_PERSONS);
            System.arraycopy(other.kindOf, 0, kindOf, 0, MOST_PERSONS);
            System.arraycopy(other.earned, 0, earned, 0, MOST_PERSONS);
            System.arraycopy(other.wrong, 0, wrong, 0, MOST_PERSONS);
            System.arraycopy(other.times, 0, times, 0, MOST_PERSONS * MOST_KINDS);
        }

        /** DAWN: who wears what is paid first, then the next DAY's masks go by lot. */
        void turn(Town town, int z) {
            for (int i = 0; i < town.persons; i++) {
                int kind = kindWornBy(i);
                earned[i] += at(town.wages, kind);
                int place = i * MOST_KINDS + kind;
                if (isWithin(place, 0, times.length - 1)) {
                    times[place]++;
                }
            }
            number++;
            for (int k = town.persons - 1; k >= 1; k--) {
                swap(worn, k, lot(z, k));
            }
        }

        int lot(int z, int k) {
            long x = 7919L * z + 6151L * k + 3571L * number + 1;
            return (int) (x * x % 65521 % (k + 1));
        }

        int kindWornBy(int i) {
            return at(kindOf, at(worn, i));
        }

        int timesHad(int i, int kind) {
            return at(times, i * MOST_KINDS + kind);
        }

        int howManyHeld() {
            return Integer.bitCount(held);
        }
    }

    /** Days as they were, the latest on top; where there is no room, the oldest one goes. */
    private static final class Shelf {
        final Day[] days;
        int size;

        Shelf(int room) {
            days = new Day[Math.max(1, room)];
            for (int d = 0; d < days.length; d++) {
                days[d] = new Day();
            }
        }

        void push(Day day) {
            if (size >= days.length) {
                dropOldest();
            }
            if (size >= 0 && size < days.length) {
                days[size].copyFrom(day);
                size++;
            }
        }

        void dropOldest() {
            Day oldest = days[0];
            for (int d = 1; d < days.length; d++) {
                days[d - 1] = days[d];
            }
            days[days.length - 1] = oldest;
            size = days.length - 1;
        }

        boolean popInto(Day day) {
            if (size <= 0 || size > days.length) {
                return false;
            }
            size--;
            day.copyFrom(days[size]);
            return true;
        }
    }

    /** What was SEEN: of each PERSON the DEEDS that he could do RIGHTLY, and those that he could not. */
    private static final class Sightings {
        final int[] could = new int[MOST_PERSONS];
        final int[] couldNot = new int[MOST_PERSONS];
        int size;

        boolean add(int i, int d, boolean rightly) {
            if (size >= MOST_SEEN || !isWithin(i, 0, MOST_PERSONS - 1)) {
                return false;
            }
            if (rightly) {
                could[i] |= 1 << d;
            } else {
                couldNot[i] |= 1 << d;
            }
            size++;
            return true;
        }

        void clear() {
            size = 0;
            for (int i = 0; i < MOST_PERSONS; i++) {
                could[i] = 0;
                couldNot[i] = 0;
            }
        }

        boolean allow(int i, int deeds) {
            return (deeds & at(could, i)) == at(could, i) && (deeds & at(couldNot, i)) == 0;
        }
    }

    /** All WAYS, one behind the other, by the MASK of PERSON 0, then of 1, .. */
    private static final class Ways {
        final int[] masks = new int[MOST_PERSONS];
        final int[] best = new int[MOST_PERSONS];
        /** What each PERSON does RIGHTLY in each MASK, worked out once as every WAY asks for it. */
        final int[] rightDeeds = new int[MOST_PERSONS * MOST_PERSONS];
        int persons;
        int total;

        void start(Town town, Day day) {
            persons = Math.min(town.persons, MOST_PERSONS);
            total = 1;
            for (int i = 0; i < persons; i++) {
                masks[i] = i;
                total *= i + 1;
                for (int m = 0; m < persons; m++) {
                    rightDeeds[i * MOST_PERSONS + m] = town.rightDeeds(i, day.kindOf[m]);
                }
            }
        }

        void step() {
            int i = persons - 2;
            while (i >= 0 && masks[i] > masks[i + 1]) {
                i--;
            }
            if (i < 0) {
                return;
            }
            int j = persons - 1;
            while (j > i && masks[j] < masks[i]) {
                j--;
            }
            swap(masks, i, j);
            for (int low = i + 1, high = persons - 1; low < high; low++, high--) {
                swap(masks, low, high);
            }
        }

        int doingAllWork(Town town, Day day) {
            int many = 0;
            start(town, day);
            for (int way = 0; way < total; way++) {
                if ((town.work & ~allRightDeeds()) == 0) {
                    many++;
                }
                step();
            }
            return many;
        }

        int allRightDeeds() {
            int deeds = 0;
            for (int i = 0; i < persons; i++) {
                deeds |= at(rightDeeds, i * MOST_PERSONS + masks[i]);
            }
            return deeds;
        }

        int fitting(Town town, Day day, Sightings sightings) {
            int many = 0;
            start(town, day);
            for (int way = 0; way < total; way++) {
                if (isAsSeen(sightings)) {
                    many++;
                }
                step();
            }
            return many;
        }

        int sureKind(Town town, Day day, Sightings sightings, int i) {
            int kind = NONE;
            start(town, day);
            for (int way = 0; way < total; way++) {
                if (isAsSeen(sightings)) {
                    int here = kindWornBy(i, day);
                    if (kind != NONE && kind != here) {
                        return NONE;
                    }
                    kind = here;
                }
                step();
            }
            return kind;
        }

        boolean isAsSeen(Sightings sightings) {
            for (int i = 0; i < persons; i++) {
                if (!sightings.allow(i, at(rightDeeds, i * MOST_PERSONS + masks[i]))) {
                    return false;
                }
            }
            return true;
        }

        /** The least sum of FAIREST; its MASKS are in best. */
        int findFairest(Town town, Day day) {
            int least = 0;
            start(town, day);
            for (int way = 0; way < total; way++) {
                int sum = sumHad(day);
                if (way == 0 || sum < least) {
                    least = sum;
                    System.arraycopy(masks, 0, best, 0, MOST_PERSONS);
                }
                step();
            }
            return least;
        }

        int sumHad(Day day) {
            int sum = 0;
            for (int i = 0; i < persons; i++) {
                sum += day.timesHad(i, kindWornBy(i, day));
            }
            return sum;
        }

        int kindWornBy(int i, Day day) {
            return at(day.kindOf, at(masks, i));
        }
    }

    /** Where masks would change hands: a copy of who wears what, so that the DAY stays as it is. */
    private static final class Alley {
        final int[] worn = new int[MOST_PERSONS];
        final int[] kindOf = new int[MOST_PERSONS];
        final int[] worths = new int[MOST_PERSONS * MOST_KINDS];
        final int[] pointsTo = new int[MOST_PERSONS];
        final int[] taken = new int[MOST_PERSONS];
        int persons;
        int locked;

        void enter(Town town, Day day) {
            persons = Math.min(town.persons, MOST_PERSONS);
            locked = town.locked;
            System.arraycopy(day.worn, 0, worn, 0, MOST_PERSONS);
            System.arraycopy(day.kindOf, 0, kindOf, 0, MOST_PERSONS);
            System.arraycopy(town.worths, 0, worths, 0, MOST_PERSONS * MOST_KINDS);
        }

        int kindWornBy(int i) {
            return at(kindOf, at(worn, i));
        }

        boolean isFree(int i) {
            return !has(locked, kindWornBy(i));
        }

        /** What the mask that j wears is worth to i. */
        int worth(int i, int j) {
            return at(worths, i * MOST_KINDS + kindWornBy(j));
        }

        boolean wouldBoth(int i, int j) {
            return isFree(i) && isFree(j) && worth(i, j) > worth(i, i) && worth(j, i) > worth(j, j);
        }

        int howManyLiked() {
            int many = 0;
            for (int i = 0; i < persons; i++) {
                for (int j = i + 1; j < persons; j++) {
                    many += wouldBoth(i, j) ? 1 : 0;
                }
            }
            return many;
        }

        int firstLiked() {
            for (int i = 0; i < persons; i++) {
                for (int j = i + 1; j < persons; j++) {
                    if (wouldBoth(i, j)) {
                        return 10 * i + j;
                    }
                }
            }
            return NONE;
        }

        int changeAllLiked() {
            for (int times = 0; times <= MOST_CHANGES; times++) {
                int first = firstLiked();
                if (first == NONE) {
                    return times;
                }
                swap(worn, first / 10, first % 10);
            }
            return MOST_CHANGES;
        }

        /** ROUNDS: taken has the MASK of each PERSON then. In every round a ring leaves. */
        void goRound() {
            int left = (1 << persons) - 1;
            for (int round = 0; round < persons && left != 0; round++) {
                for (int i = 0; i < persons; i++) {
                    pointsTo[i] = bestOf(left, i);
                }
                left = leaveInRings(left);
            }
        }

        int bestOf(int left, int i) {
            int best = i;
            for (int j = 0; j < persons && isFree(i); j++) {
                if (has(left, j) && isFree(j) && worth(i, j) > worth(i, best)) {
                    best = j;
                }
            }
            return best;
        }

        int leaveInRings(int left) {
            int stay = left;
            for (int i = 0; i < persons; i++) {
                if (has(left, i) && isInRing(i)) {
                    taken[i] = at(worn, pointsTo[i]);
                    stay &= ~(1 << i);
                }
            }
            return stay;
        }

        boolean isInRing(int i) {
            int next = at(pointsTo, i);
            for (int steps = 1; steps < persons && next != i; steps++) {
                next = at(pointsTo, next);
            }
            return next == i;
        }
    }
}
