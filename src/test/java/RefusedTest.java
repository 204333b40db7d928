import java.util.Set;
import java.util.TreeSet;

/**
 * Promises 1 to 30, one by one: the calls that each refuses, the last ones that it does not, and that nothing changes
 * by a call that is refused or that only asks.
 */
public final class RefusedTest {
    private static final int BAD = -1, NO = -2, FULL = -3, NONE = -4;
    private static final Checks checks = new Checks();

    private interface ByNumber {
        int on(MasksAtDawn x, int number);
    }

    public static void main(String[] args) {
        portraitsShowChanges();
        promise1NewObject();
        promise2Write();
        promise2WriteFull();
        promise3Wipe();
        promise4Fault();
        promise5LayNo();
        promise5LayStartsAnew();
        promise5LayKeepsNoTown();
        promise6Person();
        promise7Had();
        promise8Mask();
        promise9Dawn();
        promise9DawnOnTheLastDay();
        promise10Change();
        promise10ChangeNo();
        promise11Deed();
        promise12Sentence();
        promise12SentenceNo();
        promise13Pardon();
        promise13PardonNo();
        promise14Undo();
        promise15Chance();
        promise16Anew();
        promise17Liked();
        promise18AllChange();
        promise19Rounds();
        promise20Seen();
        promise20SeenFull();
        promise21Forget();
        promise22Fits();
        promise23Sure();
        promise24Fairest();
        promise25Make();
        promise26FalseOne();
        promise27Year();
        promise28Keep();
        promise29Back();
        promise30Count();
        ofSeveralTheFirst();
        checks.end();
    }

    /** Beside the bounds by one, far away, and such as lose their high bits in a shift or a cast. */
    private static Set<Integer> outside(int least, int most) {
        Set<Integer> numbers = new TreeSet<>();
        for (int number : new int[] {least - 1, most + 1, least - 2, most + 2, least + 32, least + 64, most + 256,
            least - 256, most + 65536, Integer.MIN_VALUE, Integer.MIN_VALUE + least + 1, Integer.MAX_VALUE}) {
            if (number < least || number > most) {
                numbers.add(number);
            }
        }
        return numbers;
    }

    /** BAD beside the bounds, whatever stands; another answer on them. */
    private static void bounds(String call, Past past, int least, int most, ByNumber byNumber) {
        for (int number : outside(least, most)) {
            past.stays(checks, call + " by " + number, x -> byNumber.on(x, number), BAD);
        }
        for (int number : new int[] {least, Math.min(least + 1, most), Math.max(most - 1, least), most}) {
            checks.due(call + " by " + number + " is BAD", byNumber.on(past.object(), number) == BAD, false);
        }
    }

    private static int persons(Past past) {
        return past.object().count(0);
    }

    private static int kinds(Past past) {
        return past.object().count(1);
    }

    private static void asks(String call, Past.Call asked) {
        for (Past past : Lives.ALL) {
            past.stays(checks, call, asked, asked.on(past.object()));
        }
    }

    /** All that is refused below would be seen, if it were done. */
    private static void portraitsShowChanges() {
        checks.part("a portrait");
        changed("write", x -> x.write(1, 'x'));
        changed("dawn", x -> x.dawn(0));
        changed("deed", x -> x.deed(0, 0));
        changed("make", x -> x.make(0, x.mask(0, 0)));
        changed("sentence", x -> x.sentence(Lives.judge(x), 0));
        changed("change", x -> x.change(1, 2));
        changed("undo", x -> x.undo());
        changed("seen", x -> x.seen(0, 1, false));
        changed("forget", x -> x.forget());
        changed("keep", x -> x.keep());
        changed("back", x -> x.back());
        changed("wipe", x -> x.wipe());
    }

    private static void changed(String call, Past.Call done) {
        new Past("middle and " + call, x -> {
            Lives.middle(x);
            done.on(x);
        }).isUnlike(checks, Lives.MIDDLE);
    }

    private static void promise1NewObject() {
        checks.part("promise 1: as told");
        new Past("laid", x -> {
            Checks.write(x, "k1,9,1;k2,5,1;p3;p3;");
            x.lay();
            x.wipe();
        }).isLike(checks, Lives.NEW);
    }

    private static void promise2Write() {
        checks.part("promise 2: n bytes (1 to 8)");
        for (Past past : Lives.ALL) {
            bounds("write", past, 1, 8, (x, n) -> x.write(n, 0x6b302c302c313bL));
        }
        for (int n = 1; n <= 8; n++) {
            checks.due("write " + n, new MasksAtDawn().write(n, -1L), n);
            checks.due("write " + n, new MasksAtDawn().write(n, Long.MIN_VALUE), n);
        }
    }

    private static void promise2WriteFull() {
        checks.part("promise 2: FULL");
        for (int n = 1; n <= 8; n++) {
            int many = n;
            Lives.FULL.stays(checks, "write " + n, x -> x.write(many, 0x3b3b3b3b3b3b3b3bL), FULL);
        }
        for (int length = 293; length <= 299; length++) {
            String text = "d0;".repeat(length / 3) + "d0".substring(0, length % 3);
            Past past = new Past(length + " bytes", x -> Checks.write(x, text));
            int room = 300 - length;
            past.stays(checks, "one too many", x -> x.write(room + 1, ';'), FULL);
            past.stays(checks, "eight", x -> x.write(8, ';'), FULL);
            checks.due("as many as there is room for", past.object().write(room, ';'), 300);
        }
    }

    private static void promise3Wipe() {
        checks.part("promise 3: THE TEXT is empty");
        checks.due("wipe", new MasksAtDawn().wipe(), 0);
        checks.due("wipe", Lives.MIDDLE.object().wipe(), 24);
        checks.due("wipe", Lives.FULL.object().wipe(), 300);
        Lives.NEW.stays(checks, "wipe", x -> x.wipe(), 0);
        Past wiped = new Past("wiped", x -> {
            Lives.full(x);
            x.wipe();
        });
        wiped.stays(checks, "wipe again", x -> x.wipe(), 0);
        new Past("another text wiped", x -> {
            Lives.full(x);
            x.wipe();
            Checks.write(x, "k9,9,1;p9;w9;d9;");
            x.wipe();
        }).isLike(checks, wiped);
        new Past("wiped and written again", x -> {
            Lives.full(x);
            x.wipe();
            Checks.write(x, Lives.FULL_TEXT);
        }).isLike(checks, Lives.FULL);
        checks.due("room for all again", wiped.object().write(8, 0), 8);
    }

    private static void promise4Fault() {
        checks.part("promise 4: FAULT. NONE");
        Lives.NEW.stays(checks, "fault", x -> x.fault(), NONE);
        Lives.MIDDLE.stays(checks, "fault", x -> x.fault(), 23);
        Lives.FULL.stays(checks, "fault", x -> x.fault(), NONE);
        for (String text : new String[] {"x", "k63,99,6;p63;w9;d63;l0;", "p1;k1,1,1;", "k9,9,1;p9;",
            "k9,9,3;k8,8,1;p9;p8;p7;p6;w67;d9;l0;", "k9,9,6;p9;p8;p7;p6;p5;p4;"}) {
            Past past = withText(text);
            past.stays(checks, "fault", x -> x.fault(), past.object().fault());
        }
    }

    /** All of all, and THE TEXT another one. */
    private static Past withText(String text) {
        return new Past("full with " + text, x -> {
            Lives.full(x);
            x.wipe();
            Checks.write(x, text);
        });
    }

    private static void promise5LayNo() {
        checks.part("promise 5: NO");
        String[] texts = {"", "x", "k0,0,1;", "p0;", "d1;", "k0,0,1;p0;p0;", "k0,0,2;p0;", "k0,0,1;k0,0,1;p0;",
            "k0,0,6;p0;p0;p0;p0;p0;", "k0,0,5;p0;p0;p0;p0;p0;p0;", "k0,0,6;k0,0,1;p0;p0;p0;p0;p0;p0;",
            "k0,0,1;p0;x", "k0,0,1;p0;d64;", "k0,0,1;p0;l1;", "k0,0,1;p0;w;", "k0,0,1;p0", "k0,0,6;" + "p0;".repeat(7)};
        for (String text : texts) {
            withText(text).stays(checks, "lay", x -> x.lay(), NO);
        }
        for (Past past : new Past[] {Lives.NEW, Lives.COULD, Lives.COULD_NOT}) {
            past.stays(checks, "lay", x -> x.lay(), NO);
        }
        Lives.MIDDLE.stays(checks, "lay", x -> x.lay(), NO);
    }

    private static void promise5LayStartsAnew() {
        checks.part("promise 5: DAY 0, nobody HELD, nothing earned, HAD, WRONG, SEEN, UNDONE, KEPT");
        for (String text : new String[] {Lives.FULL_TEXT, "k0,0,1;p0;", "k1,2,6;p1;p2;p3;p4;p5;p6;d7;", "k1,9,1;k2,5,1;p3;p3;",
            "k9,9,1;k8,8,1;k7,7,1;k6,6,1;k5,5,1;p1;w54321;p2;w12345;p4;p8;p16;"}) {
            Past first = new Past("first " + text, x -> {
                Checks.write(x, text);
                x.lay();
            });
            Past later = new Past("later " + text, x -> {
                Lives.full(x);
                x.wipe();
                Checks.write(x, text);
                x.lay();
            });
            later.isLike(checks, first);
            later.stays(checks, "lay again", x -> x.lay(), first.object().count(0));
            for (int what = 2; what <= 6; what++) {
                checks.due("count " + what, later.object().count(what), 0);
            }
        }
    }

    /** Behind larger towns that were laid and read: as if they had never been. */
    private static void promise5LayKeepsNoTown() {
        checks.part("promise 5: LAID");
        String large = "k63,99,1;k63,98,1;k63,97,1;k63,96,1;k63,95,2;" + "p63;w90000;".repeat(5) + "p63;w99999;d63;l0;l1;l4;";
        String turned = "k63,89,2;k63,88,1;k63,87,1;k63,86,1;k63,85,1;" + "p63;w01234;".repeat(6) + "d62;l3;l2;";
        for (int persons = 1; persons <= 5; persons++) {
            for (int kinds = 1; kinds <= persons; kinds++) {
                StringBuilder text = new StringBuilder();
                for (int kind = 0; kind < kinds; kind++) {
                    text.append("k").append(1 << kind).append(",").append(10 * kind).append(",");
                    text.append(kind == 0 ? persons - kinds + 1 : 1).append(";");
                }
                // a deed that no KIND of this town has, but all of the larger ones had
                text.append("p63;".repeat(persons));
                text.append("w").append("9".repeat(kinds - 1)).append("0;d").append(1 << kinds).append(";");
                Past first = new Past("first " + text, x -> {
                    Checks.write(x, text.toString());
                    x.lay();
                });
                new Past("later " + text, x -> {
                    for (String earlier : new String[] {large, turned, large, text.toString()}) {
                        x.wipe();
                        Checks.write(x, earlier);
                        x.lay();
                        x.rounds(0);
                        x.fairest(0);
                        x.seen(5, 5, true);
                    }
                    x.forget();
                }).isLike(checks, first);
            }
        }
    }

    private static void promise6Person() {
        checks.part("promise 6: BAD");
        for (Past past : Lives.ALL) {
            for (int what = 0; what <= 5; what++) {
                int asked = what;
                bounds("person, " + what, past, 0, persons(past) - 1, (x, i) -> x.person(i, asked));
            }
            bounds("what of a person", past, 0, 5, (x, what) -> x.person(1, what));
        }
    }

    private static void promise7Had() {
        checks.part("promise 7: BAD");
        for (Past past : Lives.ALL) {
            bounds("person who had", past, 0, persons(past) - 1, (x, i) -> x.had(i, 1));
            bounds("kind that he had", past, 0, kinds(past) - 1, (x, kind) -> x.had(1, kind));
        }
    }

    private static void promise8Mask() {
        checks.part("promise 8: BAD");
        for (Past past : Lives.ALL) {
            for (int what = 0; what <= 2; what++) {
                int asked = what;
                bounds("mask, " + what, past, 0, persons(past) - 1, (x, m) -> x.mask(m, asked));
            }
            bounds("what of a mask", past, 0, 2, (x, what) -> x.mask(1, what));
        }
    }

    private static void promise9Dawn() {
        checks.part("promise 9: BAD");
        for (Past past : Lives.ALL) {
            bounds("dawn", past, 0, 9999, (x, z) -> x.dawn(z));
        }
    }

    /** More calls than an object is promised for: no shorter way leads to DAY 9999. */
    private static void promise9DawnOnTheLastDay() {
        checks.part("promise 9: NO: it is DAY 9999");
        Past past = new Past("day 9999", x -> {
            Lives.full(x);
            for (int day = x.count(2) + 1; day <= 9999; day++) {
                x.dawn(day % 100);
            }
        });
        checks.due("the day", past.object().count(2), 9999);
        past.stays(checks, "dawn", x -> x.dawn(0), NO);
        past.stays(checks, "dawn", x -> x.dawn(9999), NO);
        past.stays(checks, "no dawn", x -> x.dawn(10000), BAD);
        past.stays(checks, "no dawn", x -> x.dawn(-1), BAD);
        MasksAtDawn x = past.object();
        x.undo();
        checks.due("day 9998", x.dawn(0), 9999);
    }

    private static void promise10Change() {
        checks.part("promise 10: BAD (one PERSON twice, too)");
        for (Past past : Lives.ALL) {
            bounds("change of i", past, 0, persons(past) - 1, (x, i) -> x.change(i, i == 0 ? 1 : 0));
            bounds("change with j", past, 0, persons(past) - 1, (x, j) -> x.change(j == 0 ? 1 : 0, j));
            for (int number : outside(0, persons(past) - 1)) {
                past.stays(checks, "none twice, " + number, x -> x.change(number, number), BAD);
            }
            for (int i = 0; i < persons(past); i++) {
                int who = i;
                past.stays(checks, "one person twice, " + i, x -> x.change(who, who), BAD);
            }
        }
    }

    private static void promise10ChangeNo() {
        checks.part("promise 10: NO");
        for (Past past : new Past[] {Lives.MIDDLE, Lives.FULL}) {
            int locked = Lives.wearer(past.object(), kinds(past) - 1);
            checks.due("somebody wears it", locked >= 0, true);
            for (int i = 0; i < persons(past); i++) {
                int who = i;
                if (i != locked) {
                    past.stays(checks, "his with a free one", x -> x.change(locked, who), NO);
                    past.stays(checks, "a free one with his", x -> x.change(who, locked), NO);
                }
            }
        }
        Past both = new Past("both may not", x -> {
            Checks.write(x, "k0,0,1;k0,0,1;p0;p0;l0;l1;");
            x.lay();
        });
        both.stays(checks, "change", x -> x.change(0, 1), NO);
        both.stays(checks, "change", x -> x.change(1, 0), NO);
    }

    private static void promise11Deed() {
        checks.part("promise 11: BAD");
        for (Past past : Lives.ALL) {
            bounds("deed by i", past, 0, persons(past) - 1, (x, i) -> x.deed(i, 0));
            bounds("deed d", past, 0, 5, (x, d) -> x.deed(0, d));
        }
    }

    private static void promise12Sentence() {
        checks.part("promise 12: BAD");
        for (Past past : Lives.ALL) {
            bounds("sentence by i", past, 0, persons(past) - 1, (x, i) -> x.sentence(i, 1));
            bounds("sentence on j", past, 0, persons(past) - 1, (x, j) -> x.sentence(Lives.judge(x), j));
        }
    }

    private static void promise12SentenceNo() {
        checks.part("promise 12: NO");
        for (Past past : Lives.ALL) {
            MasksAtDawn now = past.object();
            for (int i = 0; i < persons(past); i++) {
                for (int j = 0; j < persons(past); j++) {
                    int by = i, on = j;
                    if (now.person(i, 2) != 0 || now.person(j, 5) == 1) {
                        past.stays(checks, "sentence by " + i + " on " + j, x -> x.sentence(by, on), NO);
                    } else {
                        checks.due("sentence by " + i + " on " + j, past.object().sentence(i, j), now.count(3) + 1);
                    }
                }
            }
        }
    }

    private static void promise13Pardon() {
        checks.part("promise 13: BAD");
        for (Past past : Lives.ALL) {
            bounds("pardon by i", past, 0, persons(past) - 1, (x, i) -> x.pardon(i, 1));
            bounds("pardon of j", past, 0, persons(past) - 1, (x, j) -> x.pardon(Lives.judge(x), j));
        }
    }

    private static void promise13PardonNo() {
        checks.part("promise 13: NO");
        for (Past past : Lives.ALL) {
            MasksAtDawn now = past.object();
            for (int i = 0; i < persons(past); i++) {
                for (int j = 0; j < persons(past); j++) {
                    int by = i, of = j;
                    if (now.person(i, 2) != 0 || now.person(j, 5) == 0) {
                        past.stays(checks, "pardon by " + i + " of " + j, x -> x.pardon(by, of), NO);
                    } else {
                        checks.due("pardon by " + i + " of " + j, past.object().pardon(i, j), now.count(3) - 1);
                    }
                }
            }
        }
    }

    private static void promise14Undo() {
        checks.part("promise 14: NO");
        for (Past past : new Past[] {Lives.NEW, Lives.COULD, Lives.COULD_NOT}) {
            past.stays(checks, "undo", x -> x.undo(), NO);
        }
        new Past("all undone", x -> {
            Lives.full(x);
            for (int n = 0; n < 8; n++) {
                x.undo();
            }
        }).stays(checks, "undo", x -> x.undo(), NO);
        new Past("back", x -> {
            Lives.full(x);
            x.back();
        }).stays(checks, "undo", x -> x.undo(), NO);
        new Past("laid again", x -> {
            Lives.full(x);
            x.lay();
        }).stays(checks, "undo", x -> x.undo(), NO);
        checks.due("the last one", Lives.FULL.object().undo(), 7);
    }

    private static void promise15Chance() {
        checks.part("promise 15: BAD");
        for (Past past : Lives.ALL) {
            bounds("chance", past, 0, 1, (x, part) -> x.chance(part));
        }
        asks("above", x -> x.chance(0));
        asks("below", x -> x.chance(1));
    }

    private static void promise16Anew() {
        checks.part("promise 16: NONE; BAD");
        for (Past past : Lives.ALL) {
            bounds("anew", past, 0, 1, (x, what) -> x.anew(what));
        }
        asks("mask", x -> x.anew(0));
        asks("kind", x -> x.anew(1));
        Lives.NEW.stays(checks, "none", x -> x.anew(0), NONE);
        Lives.NEW.stays(checks, "none", x -> x.anew(1), NONE);
    }

    private static void promise17Liked() {
        checks.part("promise 17: NONE, BAD");
        for (Past past : Lives.ALL) {
            bounds("liked", past, 0, 1, (x, what) -> x.liked(what));
        }
        asks("how many", x -> x.liked(0));
        asks("the first", x -> x.liked(1));
        Lives.NEW.stays(checks, "none", x -> x.liked(0), 0);
        Lives.NEW.stays(checks, "none", x -> x.liked(1), NONE);
    }

    private static void promise18AllChange() {
        checks.part("promise 18: BAD");
        for (Past past : Lives.ALL) {
            bounds("all change", past, -1, persons(past) - 1, (x, i) -> x.allChange(i));
        }
        asks("how often", x -> x.allChange(-1));
        asks("kind of 1", x -> x.allChange(1));
    }

    private static void promise19Rounds() {
        checks.part("promise 19: BAD");
        for (Past past : Lives.ALL) {
            bounds("rounds", past, 0, persons(past) - 1, (x, i) -> x.rounds(i));
        }
        asks("mask of 1", x -> x.rounds(1));
    }

    private static void promise20Seen() {
        checks.part("promise 20: BAD");
        for (Past past : Lives.ALL) {
            for (boolean rightly : new boolean[] {true, false}) {
                bounds("seen of i", past, 0, persons(past) - 1, (x, i) -> x.seen(i, 0, rightly));
                bounds("seen d", past, 0, 5, (x, d) -> x.seen(0, d, rightly));
            }
        }
    }

    private static void promise20SeenFull() {
        checks.part("promise 20: FULL");
        for (int i = 0; i < 4; i++) {
            for (int d = 0; d < 6; d++) {
                int who = i, what = d;
                Lives.FULL.stays(checks, "seen", x -> x.seen(who, what, true), FULL);
                Lives.FULL.stays(checks, "seen", x -> x.seen(who, what, false), FULL);
            }
        }
    }

    private static void promise21Forget() {
        checks.part("promise 21: nothing is SEEN");
        Lives.NEW.stays(checks, "forget", x -> x.forget(), 0);
        checks.due("two", Lives.MIDDLE.object().forget(), 2);
        checks.due("ten", Lives.FULL.object().forget(), 10);
        Past forgot = new Past("forgot", x -> {
            Lives.full(x);
            x.forget();
        });
        forgot.stays(checks, "forget again", x -> x.forget(), 0);
        checks.due("room again", forgot.object().seen(0, 0, true), 1);
        new Past("forgot another one", x -> {
            Lives.full(x);
            x.forget();
            x.seen(3, 5, true);
            x.seen(2, 0, false);
            x.forget();
        }).isLike(checks, forgot);
        new Past("forgot and saw again", x -> {
            Lives.full(x);
            x.forget();
            Lives.lookTenTimes(x);
        }).isLike(checks, Lives.FULL);
    }

    private static void promise22Fits() {
        checks.part("promise 22: how many");
        asks("fits", x -> x.fits());
    }

    private static void promise23Sure() {
        checks.part("promise 23: NONE; BAD");
        for (Past past : Lives.ALL) {
            bounds("sure", past, 0, persons(past) - 1, (x, i) -> x.sure(i));
        }
        asks("sure of 1", x -> x.sure(1));
        Lives.NEW.stays(checks, "unlike ones", x -> x.sure(0), NONE);
        new Past("no way", x -> {
            x.seen(0, 0, true);
            x.seen(1, 0, true);
        }).stays(checks, "no such way", x -> x.sure(0), NONE);
    }

    private static void promise24Fairest() {
        checks.part("promise 24: BAD");
        for (Past past : Lives.ALL) {
            bounds("fairest", past, -1, persons(past) - 1, (x, i) -> x.fairest(i));
        }
        asks("the sum", x -> x.fairest(-1));
        asks("mask of 1", x -> x.fairest(1));
    }

    private static void promise25Make() {
        checks.part("promise 25: BAD");
        for (Past past : Lives.ALL) {
            bounds("make mask m", past, 0, persons(past) - 1, (x, m) -> x.make(m, 1));
            bounds("make of a kind", past, 0, kinds(past) - 1, (x, kind) -> x.make(1, kind));
        }
    }

    private static void promise26FalseOne() {
        checks.part("promise 26: NONE");
        Lives.NEW.stays(checks, "none", x -> x.falseOne(), NONE);
        Lives.FULL.stays(checks, "two judges", x -> x.falseOne(), 0);
        asks("false", x -> x.falseOne());
    }

    private static void promise27Year() {
        checks.part("promise 27: BAD");
        for (Past past : Lives.ALL) {
            int persons = persons(past), kinds = kinds(past);
            bounds("year by z", past, 0, 9999, (x, z) -> x.year(z, 3, 0, -1));
            bounds("year of n", past, 1, 60, (x, n) -> x.year(3, n, 0, -1));
            bounds("year of i", past, 0, persons - 1, (x, i) -> x.year(3, 3, i, -1));
            bounds("year of i, a kind", past, 0, persons - 1, (x, i) -> x.year(3, 3, i, 1));
            bounds("year of a kind", past, -1, kinds - 1, (x, kind) -> x.year(3, 3, 0, kind));
        }
        asks("earned", x -> x.year(9999, 60, 1, -1));
        asks("had", x -> x.year(9999, 60, 1, 1));
    }

    private static void promise28Keep() {
        checks.part("promise 28: FULL");
        Lives.FULL.stays(checks, "keep", x -> x.keep(), FULL);
        checks.due("the first", Lives.NEW.object().keep(), 1);
        checks.due("the second", Lives.MIDDLE.object().keep(), 2);
        new Past("kept and back", x -> {
            x.keep();
            x.back();
        }).isLike(checks, Lives.NEW);
        MasksAtDawn x = Lives.FULL.object();
        x.back();
        checks.due("room again", x.keep(), 2);
        checks.due("and full", x.keep(), FULL);
    }

    private static void promise29Back() {
        checks.part("promise 29: NO");
        for (Past past : new Past[] {Lives.NEW, Lives.COULD, Lives.COULD_NOT}) {
            past.stays(checks, "back", x -> x.back(), NO);
        }
        new Past("none kept any more", x -> {
            Lives.full(x);
            x.back();
            x.back();
            x.dawn(7);
        }).stays(checks, "back", x -> x.back(), NO);
        new Past("laid again", x -> {
            Lives.full(x);
            x.lay();
            x.dawn(7);
        }).stays(checks, "back", x -> x.back(), NO);
        checks.due("the last one", Lives.MIDDLE.object().back(), 0);
    }

    private static void promise30Count() {
        checks.part("promise 30: BAD");
        for (Past past : Lives.ALL) {
            bounds("count", past, 0, 7, (x, what) -> x.count(what));
        }
        int[] full = {4, 3, 4, 2, 10, 8, 2, 300};
        for (int what = 0; what <= 7; what++) {
            int asked = what;
            checks.due("count " + what, Lives.FULL.object().count(what), full[what]);
            asks("count " + what, x -> x.count(asked));
        }
    }

    private static void ofSeveralTheFirst() {
        checks.part("of several the first");
        Lives.FULL.stays(checks, "no bytes, and full", x -> x.write(9, 0), BAD);
        Lives.FULL.stays(checks, "no bytes, and full", x -> x.write(0, 0), BAD);
        int locked = Lives.wearer(Lives.FULL.object(), 2);
        Lives.FULL.stays(checks, "nobody, and may not", x -> x.change(locked, 4), BAD);
        Lives.FULL.stays(checks, "nobody, and may not", x -> x.change(-1, locked), BAD);
        Lives.FULL.stays(checks, "himself, and may not", x -> x.change(locked, locked), BAD);
        Lives.FULL.stays(checks, "nobody, by no judge", x -> x.sentence(locked, 4), BAD);
        Lives.FULL.stays(checks, "nobody, by no judge", x -> x.pardon(locked, -1), BAD);
        Lives.FULL.stays(checks, "by nobody, on one held", x -> x.sentence(4, 0), BAD);
        Lives.FULL.stays(checks, "by nobody, of one not held", x -> x.pardon(-1, 1), BAD);
        Lives.FULL.stays(checks, "nobody, and full", x -> x.seen(4, 0, true), BAD);
        Lives.FULL.stays(checks, "no deed, and full", x -> x.seen(0, 6, true), BAD);
        Lives.NEW.stays(checks, "nothing to ask, and none", x -> x.anew(2), BAD);
        Lives.NEW.stays(checks, "nothing to ask, and none", x -> x.liked(2), BAD);
        Lives.NEW.stays(checks, "nobody, and none", x -> x.sure(2), BAD);
        Past noWay = new Past("no way", x -> {
            x.seen(0, 0, true);
            x.seen(0, 0, false);
        });
        noWay.stays(checks, "nobody, and no such way", x -> x.sure(2), BAD);
        noWay.stays(checks, "nobody, and no such way", x -> x.sure(-1), BAD);
    }
}
