import java.math.BigInteger;
import java.util.ArrayList;
import java.util.Collections;
import java.util.List;

/** The Terms of the document, sentence by sentence: what can be done when, how many there may be, who is the first. */
public final class TermsBoundaryTest {
    private static final int BAD = -1, NO = -2, FULL = -3, NONE = -4;
    private static final Checks checks = new Checks();

    public static void main(String[] args) {
        laidOfAKindAndAPerson();
        laidOfAsManyMasksAsPersons();
        laidAtFirst();
        masksByKind();
        personWearsHisMask();
        deeds0To5();
        rightlyByRightsAndSkills();
        drawsFrom0To9999();
        wagesBeforeTheLots();
        firstDayIs0();
        lotsOfAllButTheFirst();
        changedIfBothMay();
        wrongIfNotRightly();
        sentenceOfOneWhoIsNotHeld();
        pardonOfOneWhoIsHeld();
        judgeHimself();
        madeOfItsOwnKind();
        undoneIsTheLatest();
        undoneOfEachAct();
        last8CanBeUndone();
        waysAreAll();
        chanceInLowestTerms();
        chanceOfEachDeed();
        anewGreaterThanNow();
        anewTheFirst();
        likedWorthMore();
        likedBothMayChange();
        likedTheFirst();
        allChangeTillThereIsNone();
        allChangeOfEachTwo();
        roundsOfOneWhoMayNot();
        roundsHimselfOfSeveral();
        roundsElseTheLowest();
        roundsTillNobodyIsLeft();
        seen10AtMost();
        fitsFromNoneToAll();
        fitsByAllThatWasSeen();
        sureOfOneKind();
        fairestTheFirst();
        fairestIsLeast();
        falseIfMoreThanTold();
        falseTheLowest();
        year1To60Days();
        yearModulo10000();
        yearFromNowOn();
        kept2AtMost();
        keptIsAllOfTheDay();
        keptIsNothingElse();
        backAsKeptLast();
        backNothingIsUndone();
        checks.end();
    }

    private static void due(String call, int got, int want) {
        checks.due(call, got, want);
    }

    private static String persons(int many) {
        return "p63;".repeat(many);
    }

    private static void laidOfAKindAndAPerson() {
        checks.part("LAID: of a KIND, a PERSON");
        due("nothing", Checks.told("").lay(), NO);
        due("no kind, no person", Checks.told("d1;").lay(), NO);
        due("a kind", Checks.told("k1,1,1;").lay(), NO);
        due("a person", Checks.told("p1;").lay(), NO);
        due("both", Checks.told("k1,1,1;p1;").lay(), 1);
    }

    private static void laidOfAsManyMasksAsPersons() {
        checks.part("LAID: as many masks as PERSONS");
        for (int masks = 1; masks <= 6; masks++) {
            for (int persons = 1; persons <= 6; persons++) {
                int want = masks == persons ? persons : NO;
                due("of one kind", Checks.told("k1,1," + masks + ";" + persons(persons)).lay(), want);
                if (masks >= 2) {
                    String kinds = "k1,1,1;k1,1," + (masks - 1) + ";";
                    due("of two kinds", Checks.told(kinds + persons(persons)).lay(), want);
                }
            }
        }
        due("seven masks", Checks.told("k1,1,6;k1,1,1;" + persons(6)).lay(), NO);
        due("twelve masks", Checks.told("k1,1,6;k1,1,6;" + persons(6)).lay(), NO);
        due("six masks", Checks.told("k1,1,1;k1,1,1;k1,1,1;k1,1,1;k1,1,2;" + persons(6)).lay(), 6);
    }

    private static void laidAtFirst() {
        checks.part("LAID: at first k1,9,1;k2,5,1;p3;p3;");
        MasksAtDawn x = new MasksAtDawn();
        due("persons", x.count(0), 2);
        due("kinds", x.count(1), 2);
        for (int i = 0; i < 2; i++) {
            due("skills", x.person(i, 0), 3);
            due("wage", x.mask(i, 1), i == 0 ? 9 : 5);
            due("rights", x.mask(i, 2), i + 1);
        }
        due("THE TEXT is empty", x.count(7), 0);
    }

    private static void masksByKind() {
        checks.part("MASKS are 0, 1, .., those of KIND 0 first");
        for (int first = 1; first <= 5; first++) {
            MasksAtDawn x = Checks.laid("k1,1," + first + ";k2,2," + (6 - first) + ";" + persons(6));
            for (int m = 0; m < 6; m++) {
                due("kind of " + m + " behind " + first, x.mask(m, 0), m < first ? 0 : 1);
            }
            due("no more", x.mask(6, 0), BAD);
        }
    }

    private static void personWearsHisMask() {
        checks.part("at first PERSON i wears MASK i");
        for (int persons = 1; persons <= 6; persons++) {
            MasksAtDawn x = Checks.laid("k1,1," + persons + ";" + persons(persons));
            for (int i = 0; i < persons; i++) {
                due("mask of " + i, x.person(i, 1), i);
            }
        }
    }

    private static void deeds0To5() {
        checks.part("a DEED (0 to 5)");
        MasksAtDawn x = Checks.laid("k63,1,1;p63;d63;");
        for (int d = -2; d <= 8; d++) {
            boolean is = d >= 0 && d <= 5;
            due("deed " + d, x.deed(0, d), is ? 1 : BAD);
            due("seen " + d, x.seen(0, d, true), is ? d + 1 : BAD);
        }
        due("wrong", x.person(0, 4), 0);
        due("all is so", x.fits(), 1);
        due("all work is done", x.chance(0), 1);
    }

    private static void rightlyByRightsAndSkills() {
        checks.part("RIGHTLY by who wears a mask whose RIGHTS have it and whose SKILLS have it");
        for (int d = 0; d < 6; d++) {
            int bit = 1 << d, others = 63 - bit;
            due("both", Checks.laid("k" + bit + ",1,1;p" + bit + ";").deed(0, d), 1);
            due("rights alone", Checks.laid("k" + bit + ",1,1;p" + others + ";").deed(0, d), 0);
            due("skills alone", Checks.laid("k" + others + ",1,1;p" + bit + ";").deed(0, d), 0);
            due("neither", Checks.laid("k" + others + ",1,1;p" + others + ";").deed(0, d), 0);
        }
    }

    private static void drawsFrom0To9999() {
        checks.part("DAWN by z (0 to 9999)");
        for (int z = -3; z <= 3; z++) {
            due("dawn " + z, new MasksAtDawn().dawn(z), z >= 0 ? 1 : BAD);
            due("year " + z, new MasksAtDawn().year(z, 1, 0, -1), z >= 0 ? 9 : BAD);
        }
        for (int z = 9996; z <= 10003; z++) {
            due("dawn " + z, new MasksAtDawn().dawn(z), z <= 9999 ? 1 : BAD);
            due("year " + z, new MasksAtDawn().year(z, 1, 0, -1), z <= 9999 ? 9 : BAD);
        }
    }

    private static void wagesBeforeTheLots() {
        checks.part("each PERSON first earns the WAGE of the mask that he wears, and HAD its KIND once more");
        MasksAtDawn x = Checks.laid("k1,10,1;k1,20,1;k1,30,2;k1,40,1;k1,99,1;" + persons(6));
        int[] earned = new int[6];
        int[][] had = new int[6][5];
        int[] wages = {10, 20, 30, 40, 99};
        for (int day = 1; day <= 6; day++) {
            for (int i = 0; i < 6; i++) {
                earned[i] += wages[x.person(i, 2)];
                had[i][x.person(i, 2)]++;
            }
            x.dawn(day * 1111);
            for (int i = 0; i < 6; i++) {
                due("earned by " + i, x.person(i, 3), earned[i]);
                for (int kind = 0; kind < 5; kind++) {
                    due("had by " + i, x.had(i, kind), had[i][kind]);
                }
            }
        }
    }

    private static void firstDayIs0() {
        checks.part("the next DAY begins (0 is the first one)");
        MasksAtDawn x = Checks.laid("k1,1,1;p1;");
        due("the first", x.count(2), 0);
        due("the next", x.dawn(0), 1);
        due("the next", x.count(2), 1);
        x.lay();
        due("laid", x.count(2), 0);
    }

    /** As the words say, with numbers of any size. */
    private static int lot(int z, int k, int day) {
        BigInteger x = BigInteger.valueOf(7919).multiply(BigInteger.valueOf(z))
            .add(BigInteger.valueOf(6151).multiply(BigInteger.valueOf(k)))
            .add(BigInteger.valueOf(3571).multiply(BigInteger.valueOf(day)))
            .add(BigInteger.ONE);
        return x.multiply(x).mod(BigInteger.valueOf(65521)).mod(BigInteger.valueOf(k + 1)).intValue();
    }

    private static void lotsOfAllButTheFirst() {
        checks.part("for k from how many PERSONS there are less 1 down to 1");
        for (int persons = 1; persons <= 6; persons++) {
            MasksAtDawn x = Checks.laid("k1,1," + persons + ";" + persons(persons) + "l0;");
            List<Integer> masks = new ArrayList<>();
            for (int i = 0; i < persons; i++) {
                masks.add(i);
            }
            int[] draws = {0, 1, 9999, 9998, 5000, 4999, 0, 9999, 1234, 777, 9999, 9999};
            for (int day = 1; day <= draws.length; day++) {
                x.dawn(draws[day - 1]);
                for (int k = persons - 1; k >= 1; k--) {
                    Collections.swap(masks, k, lot(draws[day - 1], k, day));
                }
                for (int i = 0; i < persons; i++) {
                    due("mask of " + i + " of " + persons, x.person(i, 1), masks.get(i));
                }
            }
        }
    }

    private static void changedIfBothMay() {
        checks.part("CHANGED, if both may change hands");
        for (int locks = 0; locks < 4; locks++) {
            String text = "k1,1,1;k1,1,1;" + persons(2) + ((locks & 1) == 1 ? "l0;" : "") + ((locks & 2) == 2 ? "l1;" : "");
            due("change of " + text, Checks.laid(text).change(0, 1), locks == 0 ? 1 : NO);
            due("change of " + text, Checks.laid(text).change(1, 0), locks == 0 ? 0 : NO);
        }
        due("of one kind", Checks.laid("k1,1,2;" + persons(2)).change(0, 1), 0);
        due("of one kind that may not", Checks.laid("k1,1,2;l0;" + persons(2)).change(0, 1), NO);
    }

    private static void wrongIfNotRightly() {
        checks.part("who does a DEED not RIGHTLY has one WRONG more");
        MasksAtDawn x = Checks.laid("k1,1,2;p1;p1;");
        for (int n = 1; n <= 20; n++) {
            due("not rightly", x.deed(1, 1), 0);
            due("one more", x.person(1, 4), n);
            due("rightly", x.deed(1, 0), 1);
            due("no more", x.person(1, 4), n);
            due("nor another", x.person(0, 4), 0);
        }
    }

    private static void sentenceOfOneWhoIsNotHeld() {
        checks.part("can SENTENCE one who is not HELD");
        MasksAtDawn x = Checks.laid("k1,1,1;k1,1,5;" + persons(6));
        for (int j = 5; j >= 0; j--) {
            due("one more", x.sentence(0, j), 6 - j);
            due("he is held", x.person(j, 5), 1);
            due("not twice", x.sentence(0, j), NO);
            for (int by = 1; by < 6; by++) {
                due("by no judge", x.sentence(by, j), NO);
            }
        }
        due("all", x.count(3), 6);
    }

    private static void pardonOfOneWhoIsHeld() {
        checks.part("or PARDON one who is");
        MasksAtDawn x = Checks.laid("k1,1,1;k1,1,5;" + persons(6));
        for (int j = 0; j < 6; j++) {
            due("not held", x.pardon(0, j), NO);
            x.sentence(0, j);
        }
        for (int j = 0; j < 6; j++) {
            for (int by = 1; by < 6; by++) {
                due("by no judge", x.pardon(by, j), NO);
            }
            due("one less", x.pardon(0, j), 5 - j);
            due("he is not held", x.person(j, 5), 0);
            due("not twice", x.pardon(0, j), NO);
        }
    }

    private static void judgeHimself() {
        checks.part("(himself, too)");
        MasksAtDawn x = new MasksAtDawn();
        due("himself", x.sentence(0, 0), 1);
        due("held, still judge", x.sentence(0, 1), 2);
        due("himself", x.pardon(0, 0), 1);
        due("no judge himself", x.pardon(1, 1), NO);
        due("no judge himself", new MasksAtDawn().sentence(1, 1), NO);
    }

    private static void madeOfItsOwnKind() {
        checks.part("made of a KIND (of its own, too)");
        MasksAtDawn x = new MasksAtDawn();
        for (int m = 0; m < 2; m++) {
            due("its own", x.make(m, m), m);
            due("as it was", x.mask(m, 0), m);
            due("can be undone", x.count(5), m + 1);
        }
        due("undone", x.undo(), 1);
    }

    private static final Past.Call[] ACTS = {x -> x.dawn(17), x -> x.deed(1, 5), x -> x.deed(Lives.judge(x), 0),
        x -> x.change(1, 2), x -> x.sentence(Lives.judge(x), 2), x -> x.pardon(Lives.judge(x), 1), x -> x.make(0, 1),
        x -> x.make(2, x.mask(2, 0))};

    private static void undoneIsTheLatest() {
        checks.part("UNDONE is the latest of these");
        for (int act = 0; act < ACTS.length; act++) {
            Past.Call done = ACTS[act];
            checks.due("act " + act + " is done", done.on(Lives.MIDDLE.object()) >= 0, true);
            new Past("middle, act " + act + " undone", x -> {
                Lives.middle(x);
                done.on(x);
                x.undo();
            }).isLike(checks, Lives.MIDDLE);
        }
    }

    private static void undoneOfEachAct() {
        checks.part("UNDONE: how many more can be");
        for (Past.Call act : ACTS) {
            MasksAtDawn x = Lives.MIDDLE.object();
            due("three can be", x.count(5), 3);
            act.on(x);
            due("one more", x.count(5), 4);
            for (int left = 3; left >= 0; left--) {
                due("undo", x.undo(), left);
                due("can be", x.count(5), left);
            }
            due("no more", x.undo(), NO);
        }
    }

    private static void last8CanBeUndone() {
        checks.part("(the last 8 can be)");
        for (int acts = 0; acts <= 18; acts++) {
            MasksAtDawn x = new MasksAtDawn();
            for (int day = 1; day <= acts; day++) {
                x.dawn(day);
            }
            int can = Math.min(acts, 8);
            due("can be", x.count(5), can);
            for (int left = can - 1; left >= 0; left--) {
                due("undo", x.undo(), left);
                due("day", x.count(2), acts - can + left);
                due("had", x.had(0, 0) + x.had(0, 1), acts - can + left);
            }
            due("no more", x.undo(), NO);
            due("day", x.count(2), acts - can);
        }
    }

    private static void waysAreAll() {
        checks.part("WAYS are all .., each one (unlike also if MASKS are of one KIND)");
        int[] many = {1, 1, 2, 6, 24, 120, 720};
        for (int persons = 1; persons <= 6; persons++) {
            due("of one kind", Checks.laid("k1,1," + persons + ";" + persons(persons)).fits(), many[persons]);
        }
        due("of five kinds", Checks.laid("k1,1,1;k1,1,1;k1,1,1;k1,1,1;k1,1,2;" + persons(6) + "l0;").fits(), 720);
        // one right hand, one right mask: 1 of n
        for (int persons = 2; persons <= 6; persons++) {
            for (int able = 0; able < persons; able++) {
                String hands = "p0;".repeat(able) + "p1;" + "p0;".repeat(persons - 1 - able);
                MasksAtDawn x = Checks.laid("k1,1,1;k0,0," + (persons - 1) + ";" + hands + "d1;");
                due("above", x.chance(0), 1);
                due("below", x.chance(1), persons);
            }
        }
    }

    private static void chanceInLowestTerms() {
        checks.part("CHANCE: in lowest terms");
        // masks of six that have the right, persons who have the skill; above, below
        int[][] terms = {{1, 1, 1, 6}, {2, 1, 1, 3}, {3, 1, 1, 2}, {4, 1, 2, 3}, {5, 1, 5, 6}, {2, 2, 3, 5}, {3, 2, 4, 5},
            {4, 2, 14, 15}, {5, 2, 1, 1}, {3, 3, 19, 20}, {4, 3, 1, 1}};
        for (int[] t : terms) {
            String text = "k1,0," + t[0] + ";k0,0," + (6 - t[0]) + ";" + "p1;".repeat(t[1]) + "p0;".repeat(6 - t[1]) + "d1;";
            due("above of " + text, Checks.laid(text).chance(0), t[2]);
            due("below of " + text, Checks.laid(text).chance(1), t[3]);
        }
        due("never, above", Checks.laid("k0,0,6;" + persons(6) + "d1;").chance(0), 0);
        due("never, below", Checks.laid("k0,0,6;" + persons(6) + "d1;").chance(1), 1);
        due("always, above", Checks.laid("k0,0,6;" + persons(6)).chance(0), 1);
        due("always, below", Checks.laid("k0,0,6;" + persons(6)).chance(1), 1);
        due("one person, above", Checks.laid("k1,0,1;p1;d1;").chance(0), 1);
        due("one person, below", Checks.laid("k1,0,1;p1;d1;").chance(1), 1);
    }

    private static void chanceOfEachDeed() {
        checks.part("CHANCE: for each DEED of the WORK there is a PERSON who could do it RIGHTLY");
        due("one does all", Checks.laid("k63,0,1;k0,0,1;p63;p63;d63;").chance(0), 1);
        due("each does some", Checks.laid("k7,0,1;k56,0,1;p63;p63;d63;").chance(0), 1);
        due("all but the highest", Checks.laid("k31,0,1;k31,0,1;p63;p63;d63;").chance(0), 0);
        due("all but the lowest", Checks.laid("k62,0,1;k62,0,1;p63;p63;d63;").chance(0), 0);
        due("more than the work", Checks.laid("k31,0,1;k31,0,1;p63;p63;d31;").chance(0), 1);
    }

    private static void anewGreaterThanNow() {
        checks.part("ANEW: none (not greater than now)");
        MasksAtDawn x = Checks.laid("k1,0,1;k0,0,1;p1;p0;d1;");
        due("greater", x.anew(0), 1);
        due("greater", x.anew(1), 0);
        due("made", x.make(1, 0), 1);
        due("as great", x.chance(0), 1);
        due("not greater", x.anew(0), NONE);
        due("not greater", x.anew(1), NONE);
        x = Checks.laid("k0,0,1;k0,0,1;p1;p1;d1;");
        due("never", x.anew(0), NONE);
        x = Checks.laid("k1,0,1;p0;d1;");
        due("one kind alone", x.anew(0), NONE);
    }

    private static void anewTheFirst() {
        checks.part("ANEW: of several the first (by MASK, then KIND)");
        MasksAtDawn x = Checks.laid("k0,0,1;k1,0,1;k1,0,1;k0,0,3;p1;p1;p0;p0;p0;p0;d1;");
        due("mask", x.anew(0), 0);
        due("kind", x.anew(1), 1);
        x = Checks.laid("k1,0,1;k0,0,1;k1,0,1;p1;p0;p0;d1;");
        due("mask", x.anew(0), 1);
        due("kind", x.anew(1), 0);
        x = Checks.laid("k1,0,1;k3,0,1;k0,0,1;p1;p2;p0;d3;");
        int above = 0;
        for (int m = 0; m < 3; m++) {
            for (int kind = 0; kind < 3; kind++) {
                x.make(m, kind);
                above = Math.max(above, 6 * x.chance(0) / x.chance(1));
                x.undo();
            }
        }
        x.make(x.anew(0), x.anew(1));
        due("the greatest", 6 * x.chance(0) / x.chance(1), above);
    }

    private static MasksAtDawn two(String worth0, String worth1, String locks) {
        return Checks.laid("k0,0,1;k0,0,1;p0;w" + worth0 + ";p0;w" + worth1 + ";" + locks);
    }

    private static void likedWorthMore() {
        checks.part("LIKED: to each of whom the KIND of the other one's is worth more than that of his own");
        due("both", two("01", "10", "").liked(0), 1);
        due("both", two("89", "98", "").liked(0), 1);
        due("as much to 0", two("11", "10", "").liked(0), 0);
        due("as much to 1", two("01", "11", "").liked(0), 0);
        due("less to 0", two("10", "10", "").liked(0), 0);
        due("less to 1", two("01", "01", "").liked(0), 0);
        due("none", two("11", "11", "").liked(1), NONE);
        due("the first", two("01", "10", "").liked(1), 1);
    }

    private static void likedBothMayChange() {
        checks.part("LIKED: whose masks may both change hands");
        due("0 may not", two("01", "10", "l0;").liked(0), 0);
        due("1 may not", two("01", "10", "l1;").liked(0), 0);
        due("neither may", two("01", "10", "l0;l1;").liked(1), NONE);
        due("all change", two("01", "10", "l1;").allChange(-1), 0);
    }

    private static void likedTheFirst() {
        checks.part("LIKED: how many; the first, as 10 i and j (i below j)");
        // each of 0, 1, 2 would change with each of 3, 4, 5
        MasksAtDawn x = Checks.laid("k0,0,3;k0,0,3;p0;w01;p0;w01;p0;w01;p0;w10;p0;w10;p0;w10;");
        due("how many", x.liked(0), 9);
        due("the first", x.liked(1), 3);
        x.change(0, 3);
        due("how many", x.liked(0), 4);
        due("the first", x.liked(1), 14);
        x.change(1, 5);
        due("how many", x.liked(0), 1);
        due("the first", x.liked(1), 24);
        x.change(2, 4);
        due("how many", x.liked(0), 0);
        due("the first", x.liked(1), NONE);
    }

    private static void allChangeTillThereIsNone() {
        checks.part("ALL CHANGE: .. till there is none");
        MasksAtDawn x = Checks.laid("k0,0,3;k0,0,3;p0;w01;p0;w01;p0;w01;p0;w10;p0;w10;p0;w10;");
        for (int times = 3; times >= 0; times--) {
            due("how often", x.allChange(-1), times);
            for (int i = 0; i < 6; i++) {
                due("kind of " + i, x.allChange(i), i < 3 ? 1 : 0);
            }
            if (times > 0) {
                due("a change", x.change(x.liked(1) / 10, x.liked(1) % 10), 1);
            }
        }
        // small steps: each change is worth one more to each of both, as often as they can
        x = Checks.laid("k0,0,1;k0,0,1;k0,0,1;k0,0,1;k0,0,1;p0;w01234;p0;w43210;p0;w01234;p0;w43210;p0;w22222;");
        int times = 0;
        MasksAtDawn y = Checks.laid("k0,0,1;k0,0,1;k0,0,1;k0,0,1;k0,0,1;p0;w01234;p0;w43210;p0;w01234;p0;w43210;p0;w22222;");
        for (int first = y.liked(1); first != NONE; first = y.liked(1)) {
            y.change(first / 10, first % 10);
            times++;
        }
        due("as often as by hand", x.allChange(-1), times);
        for (int i = 0; i < 5; i++) {
            due("as by hand", x.allChange(i), y.person(i, 2));
        }
    }

    private static void allChangeOfEachTwo() {
        checks.part("ALL CHANGE: the KIND that a PERSON wears then");
        String[] alone = {"w10000;", "w01000;", "w00100;", "w00010;", "w00001;", "w00001;"};
        for (int i = 0; i < 5; i++) {
            for (int j = i + 1; j < 6; j++) {
                StringBuilder text = new StringBuilder("k0,0,1;k0,0,1;k0,0,1;k0,0,1;k0,0,2;");
                for (int p = 0; p < 6; p++) {
                    text.append("p0;").append(p == i ? alone[j] : p == j ? alone[i] : "");
                }
                MasksAtDawn x = Checks.laid(text.toString());
                due("how often of " + text, x.allChange(-1), i == 4 ? 0 : 1);
                for (int p = 0; p < 6; p++) {
                    int mask = p == i ? j : p == j ? i : p;
                    due("kind of " + p + " of " + text, x.allChange(p), Math.min(4, mask));
                }
            }
        }
        MasksAtDawn x = Checks.laid("k0,0,4;k0,0,1;k0,0,1;" + "p0;w900;".repeat(4) + "p0;w001;p0;w010;");
        due("the last two", x.allChange(-1), 1);
        due("kind of 4", x.allChange(4), 2);
        due("kind of 5", x.allChange(5), 1);
        due("kind of 3", x.allChange(3), 0);
    }

    private static void roundsOfOneWhoMayNot() {
        checks.part("ROUNDS: who wears a mask that may not change hands points to himself, nobody else to him");
        MasksAtDawn x = two("09", "90", "");
        due("both may", x.rounds(0), 1);
        due("both may", x.rounds(1), 0);
        for (String locks : new String[] {"l0;", "l1;", "l0;l1;"}) {
            due("may not: " + locks, two("09", "90", locks).rounds(0), 0);
            due("may not: " + locks, two("09", "90", locks).rounds(1), 1);
        }
        due("one alone", Checks.laid("k0,0,1;p0;w9;").rounds(0), 0);
        due("one alone", Checks.laid("k0,0,1;p0;w0;l0;").rounds(0), 0);
    }

    private static void roundsHimselfOfSeveral() {
        checks.part("ROUNDS: of several himself");
        due("worth as much", two("99", "90", "").rounds(0), 0);
        due("worth as much", two("09", "00", "").rounds(1), 1);
        due("worth one more", two("89", "90", "").rounds(0), 1);
    }

    private static void roundsElseTheLowest() {
        checks.part("ROUNDS: else the lowest");
        // 0 would have 1's or 2's, both would have his
        MasksAtDawn x = Checks.laid("k0,0,1;k0,0,2;p0;w01;p0;w10;p0;w10;");
        due("0 takes the lowest one's", x.rounds(0), 1);
        due("1", x.rounds(1), 0);
        due("2 is left", x.rounds(2), 2);
        x = Checks.laid("k0,0,2;k0,0,1;p0;w01;p0;w01;p0;w10;");
        due("2 takes the lowest one's", x.rounds(2), 0);
        due("0", x.rounds(0), 2);
        due("1 is left", x.rounds(1), 1);
    }

    private static void roundsTillNobodyIsLeft() {
        checks.part("ROUNDS: again, till nobody is left");
        // everybody would have the lowest one's left most: one leaves in each round
        MasksAtDawn x = Checks.laid("k0,0,1;k0,0,1;k0,0,1;k0,0,1;k0,0,2;" + "p0;w98765;".repeat(6));
        for (int i = 0; i < 6; i++) {
            due("each his own", x.rounds(i), i);
        }
        // as many rounds as persons: each of them has a KIND of his own
        for (int persons = 1; persons <= 5; persons++) {
            String kinds = "k0,0,1;".repeat(persons);
            String up = "p0;w" + "56789".substring(0, persons) + ";";
            String down = "p0;w" + "98765".substring(0, persons) + ";";
            for (int i = 0; i < persons; i++) {
                due("the highest first", Checks.laid(kinds + up.repeat(persons)).rounds(i), i);
                due("the lowest first", Checks.laid(kinds + down.repeat(persons)).rounds(i), i);
            }
        }
        // the last one alone, in a mask that is not his number
        x = two("10", "10", "");
        x.change(0, 1);
        due("1 leaves with what both would have", x.rounds(1), 0);
        due("0 is left with what he wears", x.rounds(0), 1);
        // each would have the next one's
        x = Checks.laid("k0,0,1;k0,0,1;k0,0,1;k0,0,1;k0,0,2;p0;w09000;p0;w00900;p0;w00090;p0;w00009;p0;w90000;p0;w90005;");
        int[] ring = {1, 2, 3, 4, 0, 5};
        for (int i = 0; i < 6; i++) {
            due("a ring of five, and one", x.rounds(i), ring[i]);
        }
        x = Checks.laid("k0,0,1;k0,0,1;k0,0,1;k0,0,1;k0,0,1;p0;w09000;p0;w00900;p0;w00090;p0;w00009;p0;w90000;");
        for (int i = 0; i < 5; i++) {
            due("a ring of all", x.rounds(i), (i + 1) % 5);
        }
        x = Checks.laid("k0,0,3;k0,0,3;p0;w01;p0;w01;p0;w01;p0;w10;p0;w10;p0;w10;");
        for (int i = 0; i < 6; i++) {
            due("pairs in three rounds", x.rounds(i), (i + 3) % 6);
        }
    }

    private static void seen10AtMost() {
        checks.part("SEEN (10 at most)");
        MasksAtDawn x = new MasksAtDawn();
        for (int n = 1; n <= 12; n++) {
            due("seen", x.seen(0, 5, false), n <= 10 ? n : FULL);
            due("count", x.count(4), Math.min(n, 10));
        }
        due("the tenth counts", x.forget(), 10);
        for (int n = 1; n <= 9; n++) {
            x.seen(0, 5, false);
        }
        due("before the tenth", x.fits(), 2);
        due("the tenth", x.seen(0, 1, true), 10);
        due("is seen", x.fits(), 1);
        due("the eleventh", x.seen(0, 0, true), FULL);
        due("is not", x.fits(), 1);
    }

    private static void fitsFromNoneToAll() {
        checks.part("FITS: in how many WAYS all that was SEEN is so");
        MasksAtDawn x = Checks.laid("k1,0,1;k2,0,5;" + persons(6));
        due("all", x.fits(), 720);
        for (int i = 0; i < 5; i++) {
            x.seen(i, 0, false);
            due("not the judge: " + i, x.fits(), 600 - 120 * i);
        }
        x.seen(5, 0, false);
        due("nobody", x.fits(), 0);
    }

    /** Of one PERSON as well, the first one, the last one and those between. */
    private static void fitsByAllThatWasSeen() {
        checks.part("FITS: all that was SEEN");
        for (boolean rightly : new boolean[] {true, false}) {
            for (int telling = 0; telling < 10; telling++) {
                MasksAtDawn x = Checks.laid("k7,0,1;k56,0,1;" + persons(2));
                for (int n = 0; n < 10; n++) {
                    int low = n % 3;
                    x.seen(0, n == telling ? low + 3 : low, rightly);
                }
                due("all but one of ten", x.fits(), 0);
                x.forget();
                for (int n = 0; n < 10; n++) {
                    x.seen(0, n % 3, rightly);
                }
                due("ten of one", x.fits(), 1);
                due("sure", x.sure(0), rightly ? 0 : 1);
            }
        }
    }

    private static void sureOfOneKind() {
        checks.part("SURE: none (unlike ones, no such WAY)");
        MasksAtDawn x = Checks.laid("k1,0,1;k2,0,2;" + persons(3));
        due("unlike ones", x.sure(0), NONE);
        x.seen(0, 0, false);
        due("one kind in all", x.sure(0), 1);
        due("unlike ones", x.sure(1), NONE);
        x.seen(1, 0, false);
        due("by the others", x.sure(2), 0);
        x.seen(2, 0, false);
        for (int i = 0; i < 3; i++) {
            due("no such way", x.sure(i), NONE);
        }
        due("there is one kind", Checks.laid("k1,0,2;" + persons(2)).sure(1), 0);
        due("there is one person", Checks.laid("k1,0,1;p0;").sure(0), 0);
    }

    private static void fairestTheFirst() {
        checks.part("FAIREST: of several the first (by the MASK of PERSON 0, then of 1, ..)");
        for (int persons = 1; persons <= 6; persons++) {
            MasksAtDawn x = Checks.laid("k1,0," + persons + ";" + persons(persons));
            for (int day = 0; day < 3; day++) {
                due("each had it each day", x.fairest(-1), persons * day);
                for (int i = 0; i < persons; i++) {
                    due("the first way of all", x.fairest(i), i);
                }
                x.dawn(day);
            }
        }
        MasksAtDawn x = Checks.laid("k1,0,1;k1,0,2;" + persons(3) + "l0;l1;");
        x.dawn(0);
        int[] first = {1, 0, 2};
        for (int i = 0; i < 3; i++) {
            due("0 not the first again, 1 or 2 then: 1", x.fairest(i), first[i]);
        }
        due("one has his again", x.fairest(-1), 1);
    }

    private static void fairestIsLeast() {
        checks.part("FAIREST: how often each PERSON HAD the KIND that he would wear, together, is least");
        MasksAtDawn x = Checks.laid("k1,0,1;k1,0,1;k1,0,1;" + persons(3));
        for (int day = 1; day <= 12; day++) {
            x.dawn(day * 333);
            int least = 1000;
            for (int way = 0; way < 27; way++) {
                int a = way / 9, b = way / 3 % 3, c = way % 3;
                if (a != b && b != c && a != c) {
                    least = Math.min(least, x.had(0, a) + x.had(1, b) + x.had(2, c));
                }
            }
            due("the sum", x.fairest(-1), least);
            due("its masks", x.had(0, x.fairest(0)) + x.had(1, x.fairest(1)) + x.had(2, x.fairest(2)), least);
        }
    }

    private static void falseIfMoreThanTold() {
        checks.part("FALSE: of which there are more MASKS than were told; none");
        for (int told = 1; told <= 5; told++) {
            MasksAtDawn x = Checks.laid("k1,0," + told + ";k1,0," + (6 - told) + ";" + persons(6));
            due("as many as told", x.falseOne(), NONE);
            x.make(told, 0);
            due("one more of 0", x.falseOne(), 0);
            x.make(0, 1);
            due("as many as told", x.falseOne(), NONE);
            x.make(told, 1);
            due("one more of 1", x.falseOne(), 1);
        }
        due("one kind alone", Checks.laid("k1,0,6;" + persons(6)).falseOne(), NONE);
    }

    private static void falseTheLowest() {
        checks.part("FALSE: the lowest KIND");
        MasksAtDawn x = Checks.laid("k1,0,1;k1,0,1;k1,0,1;k1,0,1;k1,0,2;" + persons(6));
        x.make(0, 3);
        due("3 alone", x.falseOne(), 3);
        x.make(4, 1);
        due("1 and 3", x.falseOne(), 1);
        x.undo();
        x.undo();
        x.make(0, 4);
        due("the last kind", x.falseOne(), 4);
    }

    private static void year1To60Days() {
        checks.part("a YEAR by z of n (1 to 60) DAYS");
        MasksAtDawn x = Checks.laid("k1,7,3;" + persons(3));
        for (int n = -2; n <= 64; n++) {
            boolean is = n >= 1 && n <= 60;
            due("earned in " + n, x.year(0, n, 0, -1), is ? 7 * n : BAD);
            due("had in " + n, x.year(0, n, 0, 0), is ? n : BAD);
        }
    }

    private static void yearModulo10000() {
        checks.part("by z, z and 1, .. (modulo 10000)");
        String text = "k1,1,1;k1,5,1;k1,20,1;k1,50,1;k1,99,2;" + persons(6);
        for (int z : new int[] {9939, 9940, 9941, 9942, 9970, 9998, 9999, 0, 1}) {
            MasksAtDawn x = Checks.laid(text);
            MasksAtDawn y = Checks.laid(text);
            for (int n = 1; n <= 60; n++) {
                y.dawn(z + n - 1 >= 10000 ? z + n - 1 - 10000 : z + n - 1);
                due("year by " + z + " of " + n, x.year(z, n, n % 6, -1), y.person(n % 6, 3));
            }
            for (int i = 0; i < 6; i++) {
                for (int kind = 0; kind < 5; kind++) {
                    due("had by " + i, x.year(z, 60, i, kind), y.had(i, kind));
                }
            }
        }
    }

    private static void yearFromNowOn() {
        checks.part("from now on .. (in all)");
        MasksAtDawn x = Lives.FULL.object();
        MasksAtDawn y = Lives.FULL.object();
        for (int n = 1; n <= 5; n++) {
            y.dawn(41 + n);
            for (int i = 0; i < 4; i++) {
                due("earned by " + i, x.year(42, n, i, -1), y.person(i, 3));
                due("had by " + i, x.year(42, n, i, n % 3), y.had(i, n % 3));
            }
        }
        due("the day stays", x.count(2), 4);
    }

    private static void kept2AtMost() {
        checks.part("KEPT: 2 at most");
        MasksAtDawn x = new MasksAtDawn();
        for (int n = 1; n <= 4; n++) {
            due("keep", x.keep(), n <= 2 ? n : FULL);
            due("count", x.count(6), Math.min(n, 2));
        }
        due("back", x.back(), 1);
        due("back", x.back(), 0);
        due("back", x.back(), NO);
        due("room again", x.keep(), 1);
    }

    private static void keptIsAllOfTheDay() {
        checks.part("KEPT is all of the DAY (masks, KINDS of them, who is HELD, earned, HAD, WRONG, the DAY)");
        for (Past.Call act : ACTS) {
            new Past("kept, an act, back", x -> {
                Lives.middle(x);
                x.keep();
                act.on(x);
                x.back();
            }).isLike(checks, new Past("kept, back", x -> {
                Lives.middle(x);
                x.keep();
                x.back();
            }));
        }
    }

    private static void keptIsNothingElse() {
        checks.part("KEPT is all of the DAY: neither SEEN nor THE TEXT");
        MasksAtDawn x = Lives.MIDDLE.object();
        x.keep();
        x.seen(2, 1, true);
        x.write(3, 0x64303bL);
        due("back", x.back(), 1);
        due("seen", x.count(4), 3);
        due("bytes", x.count(7), 27);
        x.forget();
        x.wipe();
        due("back", x.back(), 0);
        due("seen", x.count(4), 0);
        due("bytes", x.count(7), 0);
    }

    private static void backAsKeptLast() {
        checks.part("as KEPT last: how many are left");
        MasksAtDawn x = new MasksAtDawn();
        x.dawn(1);
        x.keep();
        x.dawn(2);
        x.keep();
        x.dawn(3);
        due("the last", x.back(), 1);
        due("its day", x.count(2), 2);
        x.dawn(4);
        due("kept again", x.keep(), 2);
        x.dawn(5);
        due("the last", x.back(), 1);
        due("its day", x.count(2), 3);
        due("the first", x.back(), 0);
        due("its day", x.count(2), 1);
    }

    private static void backNothingIsUndone() {
        checks.part("nothing is UNDONE then");
        for (int acts = 0; acts <= 10; acts++) {
            MasksAtDawn x = new MasksAtDawn();
            x.deed(0, 0);
            x.keep();
            for (int n = 0; n < acts; n++) {
                x.deed(0, 1);
            }
            due("back", x.back(), 0);
            due("can be undone", x.count(5), 0);
            due("undo", x.undo(), NO);
            x.deed(0, 1);
            due("one more", x.count(5), 1);
            due("undo", x.undo(), 0);
            due("wrong", x.person(0, 4), 0);
        }
    }
}
