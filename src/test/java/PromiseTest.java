/** Each promise by itself: ordinary calls, the edges that the document names, wrong calls. */
public final class PromiseTest {
    private static final int BAD = -1, NO = -2, FULL = -3, NONE = -4;
    private static final int MIN = Integer.MIN_VALUE, MAX = Integer.MAX_VALUE;
    private static final int[] NO_COUNTS = {-1, 6, 7, MIN, MAX};
    private static final Checks checks = new Checks();

    public static void main(String[] args) {
        newObject();
        write();
        wipe();
        fault();
        faultOfNumbers();
        faultOfWorths();
        lay();
        layStartsAnew();
        layKeepsNothingOfOthers();
        faultLeavesTheTown();
        person();
        had();
        mask();
        dawn();
        dawnOfMany();
        dawnOfTheLastDay();
        change();
        deed();
        sentence();
        pardon();
        undo();
        undoOfEach();
        chance();
        anew();
        liked();
        allChange();
        rounds();
        roundsOfLocked();
        seen();
        forget();
        fits();
        sure();
        fairest();
        make();
        falseOne();
        year();
        keep();
        back();
        count();
        everyPromiseHasTests();
        checks.end();
    }

    private static void everyPromiseHasTests() {
        checks.part("all promises");
        for (int promise = 1; promise <= 30; promise++) {
            checks.due("answers of promise " + promise, checks.lookedAt("promise " + promise) > 0, true);
        }
    }

    private static void due(String call, int got, int want) {
        checks.due(call, got, want);
    }

    private static void newObject() {
        checks.part("promise 1");
        MasksAtDawn x = new MasksAtDawn();
        due("persons", x.count(0), 2);
        due("kinds", x.count(1), 2);
        for (int what = 2; what <= 7; what++) {
            due("count(" + what + ")", x.count(what), 0);
        }
        for (int i = 0; i < 2; i++) {
            due("skills", x.person(i, 0), 3);
            due("mask", x.person(i, 1), i);
            due("kind", x.person(i, 2), i);
        }
        due("wage 0", x.mask(0, 1), 9);
        due("wage 1", x.mask(1, 1), 5);
        due("rights 0", x.mask(0, 2), 1);
        due("rights 1", x.mask(1, 2), 2);
        due("text", x.fault(), NONE);
        due("worths", x.liked(0), 0);
        due("work", x.chance(1), 1);
        due("locks", x.change(0, 1), 1);
        due("told", x.falseOne(), NONE);
        due("BAD", MasksAtDawn.BAD, BAD);
        due("NO", MasksAtDawn.NO, NO);
        due("FULL", MasksAtDawn.FULL, FULL);
        due("NONE", MasksAtDawn.NONE, NONE);
    }

    private static void write() {
        checks.part("promise 2");
        MasksAtDawn x = new MasksAtDawn();
        for (int n : new int[] {0, 9, -1, MIN, MAX}) {
            due("write(" + n + ")", x.write(n, 0), BAD);
        }
        due("length", x.count(7), 0);
        due("the lowest bytes", x.write(2, 0x7878786430L), 2);
        due("one more", x.write(1, -1L << 8 | ';'), 3);
        due("d0;", x.fault(), NONE);
        due("high bytes", x.write(8, -1L), 11);
        due("their place", x.fault(), 3);
        x.wipe();
        for (int i = 1; i <= 37; i++) {
            due("eight more", x.write(8, 0), 8 * i);
        }
        due("304", x.write(8, 0), FULL);
        due("301", x.write(5, 0), FULL);
        due("still", x.count(7), 296);
        due("300", x.write(4, 0), 300);
        due("301", x.write(1, 0), FULL);
        due("BAD first", x.write(9, 0), BAD);
        due("BAD first", x.write(0, 0), BAD);
    }

    private static void wipe() {
        checks.part("promise 3");
        MasksAtDawn x = Checks.told("k1,1,1;p1;x");
        due("length", x.wipe(), 11);
        due("again", x.wipe(), 0);
        due("count", x.count(7), 0);
        due("fault", x.fault(), NONE);
        due("write", x.write(1, 'p'), 1);
        due("the laid town", x.count(1), 2);
        Checks.write(x, "3;");
        due("no bytes of old", x.fault(), NONE);
    }

    private static void faultDue(String text, int want) {
        MasksAtDawn x = Checks.told(text);
        due("fault of " + text, x.fault(), want);
        due("again", x.fault(), want);
        due("length", x.count(7), text.length());
    }

    private static void fault() {
        checks.part("promise 4");
        faultDue("", NONE);
        faultDue("k0,0,1;p0;", NONE);
        faultDue("d63;l0;", 4);
        faultDue("k0,0,1;l0;l0;p0;l0;d1;d2;", NONE);
        faultDue("x", 0);
        faultDue(";", 0);
        faultDue("K0,0,1;", 0);
        faultDue("p0;;", 3);
        faultDue("p0; p0;", 3);
        faultDue("p0;\n", 3);
        faultDue("p0;p0", 3);
        faultDue("p0;p", 3);
        faultDue("p0;k0,0,1;", 3);
        faultDue("k0,0,1;w0;", 7);
        faultDue("k0,0,1;k0,0,1;k0,0,1;k0,0,1;k0,0,1;", NONE);
        faultDue("k0,0,1;k0,0,1;k0,0,1;k0,0,1;k0,0,1;k0,0,1;", 35);
        faultDue("p0;p0;p0;p0;p0;p0;", NONE);
        faultDue("p0;p0;p0;p0;p0;p0;p0;", 18);
        faultDue("k0,0,1;k0,0,1;l2;", 14);
        faultDue("k0,0,1;k0,0,1;l1;", NONE);
        faultDue("k0,0,1;l1;k0,0,1;", 7);
        faultDue("d0;".repeat(100), NONE);
        faultDue("d0;".repeat(99) + "d64", 297);
    }

    private static void faultOfNumbers() {
        faultDue("p63;", NONE);
        faultDue("p64;", 0);
        faultDue("p063;", NONE);
        faultDue("p0063;", 0);
        faultDue("p000;", NONE);
        faultDue("p0000;", 0);
        faultDue("p;", 0);
        faultDue("p-1;", 0);
        faultDue("p1,;", 0);
        faultDue("p1,1;", 0);
        faultDue("p999;", 0);
        faultDue("p1:", 0);
        faultDue("p/;", 0);
        faultDue("p:;", 0);
        faultDue("d63;d64;", 4);
        faultDue("d;", 0);
        faultDue("k63,99,6;", NONE);
        faultDue("k64,99,6;", 0);
        faultDue("k63,100,6;", 0);
        faultDue("k63,99,7;", 0);
        faultDue("k63,99,0;", 0);
        faultDue("k063,099,006;", NONE);
        faultDue("k63,99;", 0);
        faultDue("k63,99,;", 0);
        faultDue("k63,,6;", 0);
        faultDue("k,99,6;", 0);
        faultDue("k63;99;6;", 0);
        faultDue("k63,99,6,", 0);
        faultDue("k63,99,6,1;", 0);
        faultDue("k0,0,1;l;", 7);
        faultDue("k0,0,1;l000;", NONE);
        faultDue("k0,0,1;l0000;", 7);
    }

    private static void faultOfWorths() {
        faultDue("w;", 0);
        faultDue("p0;w;", NONE);
        faultDue("p0;w0;", 3);
        faultDue("k0,0,1;p0;w9;", NONE);
        faultDue("k0,0,1;p0;w;", 10);
        faultDue("k0,0,1;p0;w09;", 10);
        faultDue("k0,0,1;p0;w9", 10);
        faultDue("k0,0,1;p0;wa;", 10);
        faultDue("k0,0,1;p0;w/;", 10);
        faultDue("k0,0,1;k0,0,1;p0;w12;w34;", NONE);
        faultDue("k0,0,1;k0,0,1;p0;w1,2;", 17);
        faultDue("k0,0,1;k0,0,1;p0;w1;", 17);
        faultDue("k0,0,1;k0,0,1;p0;w123;", 17);
    }

    private static void layDue(String text, int want) {
        MasksAtDawn x = Checks.told(text);
        due("lay of " + text, x.lay(), want);
        due("persons", x.count(0), want == NO ? 2 : want);
        due("text", x.count(7), text.length());
    }

    private static void lay() {
        checks.part("promise 5");
        layDue("", NO);
        layDue("k0,0,1;", NO);
        layDue("p0;", NO);
        layDue("k0,0,1;p0;", 1);
        layDue("k0,0,1;p0;p0;", NO);
        layDue("k0,0,2;p0;", NO);
        layDue("k0,0,2;p0;p0;", 2);
        layDue("k0,0,2;p0;p0;x", NO);
        layDue("k0,0,2;p0;p0;l1;", NO);
        layDue("k0,0,6;p0;p0;p0;p0;p0;p0;", 6);
        layDue("k0,0,6;k0,0,6;k0,0,6;k0,0,6;k0,0,6;p0;p0;p0;p0;p0;p0;", NO);
        layDue("k0,0,1;k0,0,1;k0,0,1;k0,0,1;k0,0,2;p0;p0;p0;p0;p0;p0;", 6);
    }

    private static void layStartsAnew() {
        MasksAtDawn x = new MasksAtDawn();
        x.sentence(0, 1);
        x.deed(0, 1);
        x.dawn(1);
        x.make(1, 0);
        x.keep();
        x.seen(0, 0, true);
        due("nothing to lay", x.lay(), NO);
        Checks.write(x, "k1,9,1;k2,5,1;p3;p");
        due("not with a fault", x.lay(), NO);
        due("day", x.count(2), 1);
        due("held", x.count(3), 1);
        due("seen", x.count(4), 1);
        due("can be undone", x.count(5), 4);
        due("kept", x.count(6), 1);
        Checks.write(x, "3;");
        due("lay", x.lay(), 2);
        for (int what = 2; what <= 6; what++) {
            due("count(" + what + ")", x.count(what), 0);
        }
        for (int i = 0; i < 2; i++) {
            due("mask", x.person(i, 1), i);
            due("kind", x.person(i, 2), i);
            due("earned", x.person(i, 3), 0);
            due("wrong", x.person(i, 4), 0);
            due("held", x.person(i, 5), 0);
            due("had", x.had(i, i), 0);
        }
        due("undo", x.undo(), NO);
        due("back", x.back(), NO);
        due("fits", x.fits(), 2);
        due("lay again", x.lay(), 2);
        x.wipe();
        Checks.write(x, "k7,8,2;p1;p2;");
        due("another", x.lay(), 2);
        due("its kinds", x.count(1), 1);
        due("work", x.chance(0), 1);
        due("skills", x.person(1, 0), 2);
        due("rights", x.mask(1, 2), 7);
        due("wage", x.mask(1, 1), 8);
    }

    private static void layKeepsNothingOfOthers() {
        MasksAtDawn x = Checks.laid("k1,1,1;k2,2,1;p3;w19;p3;w91;d8;l0;l1;");
        for (int again = 0; again < 3; again++) {
            due("lay", x.lay(), 2);
            due("work", x.chance(0), 0);
            due("locks", x.change(0, 1), NO);
        }
        x.wipe();
        Checks.write(x, "k1,1,1;k2,2,1;p3;p3;");
        for (int again = 0; again < 3; again++) {
            due("lay", x.lay(), 2);
            due("no work", x.chance(0), 1);
            due("no worths", x.rounds(0), 0);
            due("no locks", x.change(0, 1), 1);
            due("no worths", x.rounds(0), 1);
        }
    }

    private static void faultLeavesTheTown() {
        MasksAtDawn x = Checks.laid("k1,1,1;k2,2,2;p3;w19;p3;w91;p3;d1;l0;");
        x.lay();
        x.wipe();
        due("fault", x.fault(), NONE);
        due("persons", x.count(0), 3);
        due("kinds", x.count(1), 2);
        Checks.write(x, "k63,63,6;p0;x");
        due("fault", x.fault(), 12);
        due("lay", x.lay(), NO);
        due("kinds", x.count(1), 2);
        due("rights", x.mask(0, 2), 1);
        due("skills", x.person(0, 0), 3);
        due("locks", x.change(0, 1), NO);
    }

    private static void person() {
        checks.part("promise 6");
        MasksAtDawn x = Checks.laid("k1,7,1;k2,5,2;p1;p2;p63;");
        due("skills", x.person(2, 0), 63);
        due("mask", x.person(2, 1), 2);
        due("kind", x.person(2, 2), 1);
        x.deed(2, 5);
        x.deed(2, 4);
        x.sentence(0, 2);
        x.dawn(0);
        due("earned", x.person(0, 3), 7);
        due("earned", x.person(2, 3), 5);
        due("wrong", x.person(2, 4), 2);
        due("held", x.person(2, 5), 1);
        due("not held", x.person(1, 5), 0);
        for (int i : new int[] {-1, 3, MIN, MAX}) {
            due("no person", x.person(i, 0), BAD);
        }
        for (int what : NO_COUNTS) {
            due("nothing", x.person(0, what), BAD);
        }
    }

    private static void had() {
        checks.part("promise 7");
        MasksAtDawn x = new MasksAtDawn();
        due("at first", x.had(0, 0), 0);
        x.dawn(1);
        due("once", x.had(0, 0), 1);
        due("not that", x.had(0, 1), 0);
        due("once", x.had(1, 1), 1);
        x.dawn(0);
        due("the other one", x.had(0, 1), 1);
        due("the other one", x.had(1, 0), 1);
        for (int no : new int[] {-1, 2, MIN, MAX}) {
            due("no person", x.had(no, 0), BAD);
            due("no kind", x.had(0, no), BAD);
        }
        MasksAtDawn y = new MasksAtDawn();
        y.make(0, 1);
        y.dawn(0);
        due("by what it is now", y.had(0, 1), 1);
        due("not by what it was", y.had(0, 0), 0);
    }

    private static void mask() {
        checks.part("promise 8");
        MasksAtDawn x = Checks.laid("k1,7,1;k62,99,2;p1;p2;p63;");
        due("kind", x.mask(0, 0), 0);
        due("kind", x.mask(1, 0), 1);
        due("kind", x.mask(2, 0), 1);
        due("wage", x.mask(2, 1), 99);
        due("rights", x.mask(2, 2), 62);
        x.make(2, 0);
        due("made", x.mask(2, 0), 0);
        due("its wage", x.mask(2, 1), 7);
        due("its rights", x.mask(2, 2), 1);
        for (int no : new int[] {-1, 3, MIN, MAX}) {
            due("no mask", x.mask(no, 0), BAD);
            due("nothing", x.mask(0, no), BAD);
        }
    }

    private static void dawn() {
        checks.part("promise 9");
        MasksAtDawn x = new MasksAtDawn();
        for (int z : new int[] {-1, 10000, MIN, MAX}) {
            due("dawn(" + z + ")", x.dawn(z), BAD);
        }
        due("nothing changed", x.count(2) + x.count(5) + x.person(0, 3), 0);
        // x is 17642, its square modulo 65521 is 15414, which is even: the masks change
        due("dawn(1)", x.dawn(1), 1);
        due("mask of 0", x.person(0, 1), 1);
        due("mask of 1", x.person(1, 1), 0);
        due("earned as worn before", x.person(0, 3), 9);
        due("earned as worn before", x.person(1, 3), 5);
        // x is 13294, its square modulo 65521 is 20699, which is odd: they stay
        due("dawn(0)", x.dawn(0), 2);
        due("mask of 0", x.person(0, 1), 1);
        due("earned by the face", x.person(0, 3), 14);
        due("earned by the face", x.person(1, 3), 14);
        due("dawn(9999)", x.dawn(9999), 3);
        MasksAtDawn y = Checks.laid("k0,6,1;p0;");
        due("one person", y.dawn(77), 1);
        due("his mask", y.person(0, 1), 0);
        due("his wage", y.person(0, 3), 6);
    }

    /** The lots anew from the words, by figures as large as may be. */
    private static void dawnOfMany() {
        MasksAtDawn x = Checks.laid("k0,1,3;k0,2,3;p0;p0;p0;p0;p0;p0;l0;l1;");
        java.util.List<Integer> masks = new java.util.ArrayList<>(java.util.List.of(0, 1, 2, 3, 4, 5));
        for (int day = 1; day <= 400; day++) {
            int z = day * 7919 % 10000;
            due("dawn(" + z + ")", x.dawn(z), day);
            for (int k = 5; k >= 1; k--) {
                java.math.BigInteger n = java.math.BigInteger.valueOf(7919L * z + 6151L * k + 3571L * day + 1);
                int rest = n.modPow(java.math.BigInteger.TWO, java.math.BigInteger.valueOf(65521)).intValue();
                java.util.Collections.swap(masks, k, rest % (k + 1));
            }
            due("mask of " + day % 6, x.person(day % 6, 1), masks.get(day % 6));
        }
    }

    /** More calls than an object is promised for: no shorter way leads to DAY 9999. */
    private static void dawnOfTheLastDay() {
        MasksAtDawn x = new MasksAtDawn();
        for (int day = 1; day < 9999; day++) {
            x.dawn(day);
        }
        due("the last one", x.dawn(0), 9999);
        int earned = x.person(0, 3);
        due("no more", x.dawn(0), NO);
        due("BAD first", x.dawn(-1), BAD);
        due("nothing changes", x.person(0, 3), earned);
        due("undo", x.undo(), 7);
        due("again", x.dawn(0), 9999);
    }

    private static void change() {
        checks.part("promise 10");
        MasksAtDawn x = Checks.laid("k0,0,1;k0,0,1;k0,0,2;p0;p0;p0;p0;l1;");
        due("change", x.change(0, 2), 2);
        due("the other one's", x.person(2, 2), 0);
        due("masks", x.person(0, 1), 2);
        due("back", x.change(0, 2), 0);
        due("the other way", x.change(2, 0), 0);
        due("may not", x.change(0, 1), NO);
        due("may not", x.change(1, 0), NO);
        due("of one kind", x.change(3, 0), 2);
        due("masks", x.person(3, 1), 2);
        due("can be undone", x.count(5), 4);
        due("himself", x.change(0, 0), BAD);
        due("himself, who may not", x.change(1, 1), BAD);
        for (int no : new int[] {-1, 4, MIN, MAX}) {
            due("no person", x.change(no, 0), BAD);
            due("no person", x.change(0, no), BAD);
            due("no person, and may not", x.change(1, no), BAD);
            due("no person twice", x.change(no, no), BAD);
        }
        x.make(1, 0);
        due("made of a free kind", x.change(1, 2), 0);
        x.make(0, 1);
        due("made of a locked one", x.change(2, 1), NO);
        due("nothing changed", x.count(5), 7);
    }

    private static void deed() {
        checks.part("promise 11");
        MasksAtDawn x = Checks.laid("k33,0,1;k62,0,1;p35;p3;");
        due("right and skill", x.deed(0, 0), 1);
        due("highest", x.deed(0, 5), 1);
        due("skill alone", x.deed(0, 1), 0);
        due("right alone", x.deed(1, 5), 0);
        due("neither", x.deed(0, 3), 0);
        due("wrong", x.person(0, 4), 2);
        due("wrong", x.person(1, 4), 1);
        due("can be undone", x.count(5), 5);
        for (int no : NO_COUNTS) {
            due("no deed", x.deed(0, no), BAD);
        }
        for (int no : new int[] {-1, 2, MIN, MAX}) {
            due("no person", x.deed(no, 0), BAD);
        }
        due("wrong", x.person(0, 4), 2);
        due("can be undone", x.count(5), 5);
        x.change(0, 1);
        due("goes with the face", x.deed(0, 0), 0);
        due("goes with the face", x.deed(1, 0), 1);
        x.make(1, 0);
        due("goes with the kind", x.deed(0, 0), 1);
    }

    private static void sentence() {
        checks.part("promise 12");
        MasksAtDawn x = Checks.laid("k0,0,2;k0,0,1;p0;p0;p0;");
        due("no judge", x.sentence(2, 0), NO);
        due("judge", x.sentence(0, 2), 1);
        due("held already", x.sentence(1, 2), NO);
        due("himself", x.sentence(1, 1), 2);
        due("held, but judge", x.sentence(1, 0), 3);
        for (int no : new int[] {-1, 3, MIN, MAX}) {
            due("no person", x.sentence(no, 0), BAD);
            due("no person", x.sentence(0, no), BAD);
            due("no person by no judge", x.sentence(2, no), BAD);
        }
        x.dawn(0);
        due("holds", x.count(3), 3);
        MasksAtDawn y = new MasksAtDawn();
        y.make(1, 0);
        due("judge by a made mask", y.sentence(1, 0), 1);
        y.make(0, 1);
        due("judge no more", y.sentence(0, 1), NO);
        due("can be undone", y.count(5), 3);
    }

    private static void pardon() {
        checks.part("promise 13");
        MasksAtDawn x = Checks.laid("k0,0,2;k0,0,1;p0;p0;p0;");
        due("not held", x.pardon(0, 2), NO);
        x.sentence(0, 2);
        x.sentence(0, 1);
        x.sentence(0, 0);
        due("no judge", x.pardon(2, 2), NO);
        due("judge", x.pardon(1, 2), 2);
        due("not held any more", x.pardon(1, 2), NO);
        due("himself", x.pardon(1, 1), 1);
        due("person", x.person(1, 5), 0);
        due("the one left", x.person(0, 5), 1);
        for (int no : new int[] {-1, 3, MIN, MAX}) {
            due("no person", x.pardon(no, 0), BAD);
            due("no person", x.pardon(0, no), BAD);
            due("no person by no judge", x.pardon(2, no), BAD);
        }
        due("can be undone", x.count(5), 5);
        due("sentenced again", x.sentence(0, 1), 2);
    }

    private static void undo() {
        checks.part("promise 14");
        MasksAtDawn x = new MasksAtDawn();
        due("nothing", x.undo(), NO);
        for (int d = 1; d <= 20; d++) {
            x.dawn(d);
            due("can be", x.count(5), Math.min(d, 8));
        }
        for (int left = 7; left >= 0; left--) {
            due("undo", x.undo(), left);
            due("day", x.count(2), left + 12);
        }
        due("no more", x.undo(), NO);
        due("day", x.count(2), 12);
        due("had", x.had(0, 0) + x.had(0, 1), 12);
        x.dawn(3);
        x.dawn(4);
        due("undo", x.undo(), 1);
        x.make(0, 1);
        due("behind another", x.undo(), 1);
        due("undo", x.undo(), 0);
        due("day", x.count(2), 12);
    }

    private static void undoOfEach() {
        MasksAtDawn x = new MasksAtDawn();
        x.sentence(0, 1);
        x.pardon(0, 1);
        x.deed(0, 1);
        x.change(0, 1);
        x.make(0, 1);
        x.dawn(1);
        x.deed(0, 1);
        x.make(1, 1);
        x.seen(0, 0, true);
        due("all of them", x.count(5), 8);
        due("a kind of its own", x.undo(), 7);
        due("a deed", x.undo(), 6);
        due("earned", x.person(0, 3) + x.person(1, 3), 10);
        due("a dawn", x.undo(), 5);
        due("earned", x.person(0, 3) + x.person(1, 3), 0);
        due("had", x.had(0, 1), 0);
        due("false", x.falseOne(), 1);
        due("a mask made", x.undo(), 4);
        due("false", x.falseOne(), NONE);
        due("kind", x.person(0, 2), 1);
        due("a change", x.undo(), 3);
        due("kind", x.person(0, 2), 0);
        due("wrong", x.person(0, 4), 1);
        due("a deed", x.undo(), 2);
        due("wrong", x.person(0, 4), 0);
        due("held", x.count(3), 0);
        due("a pardon", x.undo(), 1);
        due("held", x.person(1, 5), 1);
        due("a sentence", x.undo(), 0);
        due("held", x.count(3), 0);
        due("seen stays", x.count(4), 1);
    }

    private static void chance() {
        checks.part("promise 15");
        MasksAtDawn x = Checks.laid("k1,0,1;k2,0,1;k4,0,1;p1;p2;p4;d7;");
        due("above", x.chance(0), 1);
        due("below", x.chance(1), 6);
        for (int no : new int[] {-1, 2, MIN, MAX}) {
            due("no part", x.chance(no), BAD);
        }
        x = Checks.laid("k1,0,1;k2,0,1;k4,0,1;p1;p2;p4;d1;");
        due("in lowest terms", x.chance(0), 1);
        due("in lowest terms", x.chance(1), 3);
        x = Checks.laid("k1,0,1;k2,0,1;k4,0,1;p1;p2;p4;");
        due("no work", x.chance(0), 1);
        due("no work", x.chance(1), 1);
        x = Checks.laid("k1,0,1;k2,0,1;k4,0,1;p1;p2;p4;d8;");
        due("never", x.chance(0), 0);
        due("never", x.chance(1), 1);
        x = Checks.laid("k1,0,2;k0,0,1;p1;p1;p0;d63;d1;");
        x.sentence(0, 0);
        x.sentence(0, 1);
        due("the work told last, whoever is held", x.chance(0), 1);
        x = Checks.laid("k1,0,2;k0,0,1;p1;p0;p0;d1;");
        due("two of three masks", x.chance(0), 2);
        due("two of three masks", x.chance(1), 3);
        x.make(1, 1);
        due("one of three masks", x.chance(0), 1);
        due("one of three masks", x.chance(1), 3);
    }

    private static void anew() {
        checks.part("promise 16");
        MasksAtDawn x = Checks.laid("k1,0,2;k2,0,1;p1;p1;p3;d3;");
        // the mask of kind 1 works on person 2 alone: 2 of 6; with two such ones
        // the mask of kind 0 must be on person 0 or 1: 4 of 6
        due("chance", x.chance(0), 1);
        due("mask", x.anew(0), 0);
        due("kind", x.anew(1), 1);
        x.make(0, 1);
        due("chance as told", x.chance(0), 2);
        due("not greater", x.anew(0), NONE);
        due("not greater", x.anew(1), NONE);
        for (int no : new int[] {-1, 2, MIN, MAX}) {
            due("nothing, and none", x.anew(no), BAD);
        }
        x = Checks.laid("k0,0,1;k1,0,1;k1,0,1;p1;p0;p0;d1;");
        due("the first of several", x.anew(0), 0);
        due("the first of several", x.anew(1), 1);
        due("nothing made", x.count(5) + x.mask(0, 0), 0);
        due("chance stays", x.chance(0), 2);
        x = Checks.laid("k3,0,2;k1,0,1;p3;p0;p0;d3;");
        due("not the first mask", x.anew(0), 2);
        due("not the last kind", x.anew(1), 0);
    }

    private static void liked() {
        checks.part("promise 17");
        MasksAtDawn x = Checks.laid("k0,0,1;k0,0,1;k0,0,1;p0;w012;p0;w201;p0;w120;");
        // each would have the next one's most, the one behind that one's more than his own
        due("all", x.liked(0), 3);
        due("first", x.liked(1), 1);
        for (int no : new int[] {-1, 2, MIN, MAX}) {
            due("nothing", x.liked(no), BAD);
        }
        x = Checks.laid("k0,0,1;k0,0,1;k0,0,1;p0;w012;p0;w201;p0;w120;l0;");
        due("one may not", x.liked(0), 1);
        due("the other two", x.liked(1), 12);
        x = Checks.laid("k0,0,1;k0,0,1;p0;w55;p0;w91;");
        due("worth as much", x.liked(0), 0);
        due("none", x.liked(1), NONE);
        x = Checks.laid("k0,0,1;k0,0,1;p0;w56;p0;w99;");
        due("worth as much to the other", x.liked(0), 0);
        x = Checks.laid("k0,0,1;k0,0,1;p0;w56;p0;w91;");
        due("worth more", x.liked(0), 1);
        x.change(0, 1);
        due("changed already", x.liked(1), NONE);
        x.make(0, 1);
        due("of one kind", x.liked(0), 0);
        x = Checks.laid("k0,0,1;k0,0,1;p0;w56;w00;p0;w91;");
        due("the last one told", x.liked(0), 0);
        x = Checks.laid("k0,0,1;k0,0,1;k0,0,1;k0,0,2;k0,0,1;p0;w10000;p0;p0;p0;p0;p0;w00001;");
        x.change(0, 5);
        due("the last kind to the last person", x.liked(1), 5);
        due("no other", x.liked(0), 1);
    }

    private static void allChange() {
        checks.part("promise 18");
        MasksAtDawn x = Checks.laid("k0,0,1;k0,0,1;k0,0,1;p0;w012;p0;w201;p0;w120;");
        // 0 and 1 change: 1, 0, 2; 0 likes 2's more, 2 likes 1's more: 2, 0, 1
        due("how often", x.allChange(-1), 2);
        due("kind of 0", x.allChange(0), 2);
        due("kind of 1", x.allChange(1), 0);
        due("kind of 2", x.allChange(2), 1);
        due("the day stays", x.person(0, 1) + x.count(5), 0);
        for (int no : new int[] {-2, 3, MIN, MAX}) {
            due("no person", x.allChange(no), BAD);
        }
        x = Checks.laid("k0,0,1;k0,0,1;k0,0,1;p0;w012;p0;w201;p0;w120;l2;");
        due("one may not", x.allChange(-1), 1);
        due("kind of 0", x.allChange(0), 1);
        due("kind of 2", x.allChange(2), 2);
        x.change(0, 1);
        due("from now on", x.allChange(-1), 0);
        due("kind of 0", x.allChange(0), 1);
        x = Checks.laid("k0,0,4;k0,0,1;k0,0,1;p0;w900;p0;w900;p0;w900;p0;w900;p0;w012;p0;w021;");
        due("the last two", x.liked(1), 45);
        due("the last two", x.allChange(-1), 1);
        due("kind of 4", x.allChange(4), 2);
        due("kind of 5", x.allChange(5), 1);
    }

    private static void rounds() {
        checks.part("promise 19");
        MasksAtDawn x = Checks.laid("k0,0,1;k0,0,1;k0,0,1;p0;w012;p0;w201;p0;w120;");
        due("0 and 2, as 0 points to 2, 2 to 1, 1 to 0", x.rounds(0), 2);
        due("1", x.rounds(1), 0);
        due("2", x.rounds(2), 1);
        for (int no : new int[] {-1, 3, MIN, MAX}) {
            due("no person", x.rounds(no), BAD);
        }
        x = Checks.laid("k0,0,3;k0,0,1;p0;w01;p0;w01;p0;w10;p0;w10;");
        // 0 and 1 point to 3, 3 to the lowest of several: 0; 1 is left with himself
        due("0", x.rounds(0), 3);
        due("1", x.rounds(1), 1);
        due("himself of several", x.rounds(2), 2);
        due("lowest of several", x.rounds(3), 0);
        x = Checks.laid("k0,0,1;k0,0,1;k0,0,1;p0;w210;p0;w321;p0;w310;");
        // all point to 0, who leaves with his own; then both to 1; 2 is left
        due("0", x.rounds(0), 0);
        due("1", x.rounds(1), 1);
        due("2", x.rounds(2), 2);
        x = Checks.laid("k0,0,1;k0,0,1;k0,0,1;p0;w210;p0;w301;p0;w310;");
        due("second ring, 1", x.rounds(1), 2);
        due("second ring, 2", x.rounds(2), 1);
        due("the day stays", x.person(1, 1), 1);
        due("nothing to undo", x.count(5), 0);
        // a ring of five round one who leaves at once, then one behind the other
        x = Checks.laid("k0,0,1;k0,0,1;k0,0,1;k0,0,1;k0,0,2;p0;w02000;p0;w00200;p0;w00020;p0;w00002;p0;w20000;p0;w99998;");
        for (int i = 0; i < 6; i++) {
            due("ring of five", x.rounds(i), i == 5 ? 5 : (i + 1) % 5);
        }
        x = Checks.laid("k0,0,1;k0,0,1;k0,0,1;k0,0,1;k0,0,2;p0;w10000;p0;w21000;p0;w32100;p0;w43210;p0;w54321;p0;w54321;");
        for (int i = 0; i < 6; i++) {
            due("six rounds", x.rounds(i), i);
        }
    }

    private static void roundsOfLocked() {
        MasksAtDawn x = Checks.laid("k0,0,1;k0,0,1;k0,0,1;p0;w012;p0;w901;p0;w120;l0;");
        // nobody points to 0, and 0 to himself: 1 and 2 change
        due("locked", x.rounds(0), 0);
        due("1", x.rounds(1), 2);
        due("2", x.rounds(2), 1);
        x.make(0, 2);
        due("free by its kind now: of 1 and 2, the lowest", x.rounds(0), 0);
        x.make(1, 0);
        due("locked by its kind now", x.rounds(1), 1);
        due("worth as much", x.rounds(2), 2);
    }

    private static void seen() {
        checks.part("promise 20");
        MasksAtDawn x = new MasksAtDawn();
        for (int no : NO_COUNTS) {
            due("no deed", x.seen(0, no, true), BAD);
        }
        for (int no : new int[] {-1, 2, MIN, MAX}) {
            due("no person", x.seen(no, 0, false), BAD);
        }
        for (int n = 1; n <= 10; n++) {
            due("seen", x.seen(n % 2, n % 6, n % 3 == 0), n);
        }
        due("eleven", x.seen(0, 0, true), FULL);
        due("BAD first", x.seen(0, 6, true), BAD);
        due("BAD first", x.seen(2, 0, true), BAD);
        due("count", x.count(4), 10);
        due("not undone", x.undo(), NO);
    }

    private static void forget() {
        checks.part("promise 21");
        MasksAtDawn x = new MasksAtDawn();
        due("nothing", x.forget(), 0);
        x.seen(0, 5, true);
        x.seen(0, 5, false);
        x.seen(1, 0, true);
        due("fits", x.fits(), 0);
        due("three", x.forget(), 3);
        due("none left", x.forget(), 0);
        due("count", x.count(4), 0);
        due("fits", x.fits(), 2);
        due("seen", x.seen(1, 0, true), 1);
        due("fits", x.fits(), 1);
        x.forget();
        x.seen(1, 0, false);
        x.forget();
        x.seen(1, 0, true);
        due("nothing of it is left", x.fits(), 1);
    }

    private static void fits() {
        checks.part("promise 22");
        MasksAtDawn x = Checks.laid("k1,0,2;k2,0,2;p3;p3;p1;p0;");
        due("nothing seen", x.fits(), 24);
        x.seen(0, 0, true);
        due("0 has one of two", x.fits(), 12);
        x.seen(1, 0, false);
        due("1 has one of the others", x.fits(), 8);
        x.seen(2, 1, false);
        due("2 never could", x.fits(), 8);
        x.seen(3, 5, false);
        due("nor 3", x.fits(), 8);
        x.seen(2, 0, true);
        due("0 and 2 have both", x.fits(), 4);
        x.make(0, 1);
        due("one of such a kind", x.fits(), 0);
        x.undo();
        due("two again", x.fits(), 4);
        x.change(0, 3);
        x.sentence(1, 1);
        due("whatever they wear", x.fits(), 4);
        x.seen(2, 0, false);
        due("both", x.fits(), 0);
    }

    private static void sure() {
        checks.part("promise 23");
        MasksAtDawn x = Checks.laid("k1,0,2;k2,0,1;p3;p3;p0;");
        due("unlike ones", x.sure(0), NONE);
        x.seen(0, 0, true);
        due("0", x.sure(0), 0);
        due("1", x.sure(1), NONE);
        x.seen(1, 0, true);
        due("1", x.sure(1), 0);
        due("2 by the others", x.sure(2), 1);
        for (int no : new int[] {-1, 3, MIN, MAX}) {
            due("no person", x.sure(no), BAD);
        }
        x.seen(2, 0, true);
        due("no such way", x.sure(0), NONE);
        due("BAD first", x.sure(3), BAD);
        x = Checks.laid("k1,0,3;p3;p3;p0;");
        due("of one kind", x.sure(1), 0);
        x = new MasksAtDawn();
        x.seen(0, 1, true);
        due("by the last way alone", x.sure(0), 1);
        x = Checks.laid("k0,0,1;k0,0,1;k0,0,1;k0,0,1;k32,0,2;p0;p0;p0;p0;p32;p32;");
        x.seen(5, 5, true);
        due("the last of six", x.sure(5), 4);
        due("half of all", x.fits(), 240);
    }

    private static void fairest() {
        checks.part("promise 24");
        MasksAtDawn x = new MasksAtDawn();
        due("sum", x.fairest(-1), 0);
        due("first", x.fairest(0), 0);
        x.dawn(1);
        due("sum", x.fairest(-1), 0);
        due("the other one", x.fairest(0), 1);
        due("the other one", x.fairest(1), 0);
        x.dawn(0);
        due("sum", x.fairest(-1), 2);
        due("first of several", x.fairest(0), 0);
        x.make(0, 1);
        due("by kinds now", x.fairest(-1), 2);
        for (int no : new int[] {-2, 2, MIN, MAX}) {
            due("no person", x.fairest(no), BAD);
        }
        x = Checks.laid("k0,0,2;k0,0,1;p0;p0;p0;l1;");
        x.dawn(0);
        // 0 and 1 had kind 0, 2 had kind 1: 0 or 1 takes mask 2
        due("sum", x.fairest(-1), 1);
        due("0", x.fairest(0), 0);
        due("1", x.fairest(1), 2);
        due("2", x.fairest(2), 1);
        due("nothing changes", x.count(5), 1);
        x = Checks.laid("k0,0,1;k0,0,1;k0,0,1;k0,0,1;k0,0,2;p0;p0;p0;p0;p0;p0;");
        x.dawn(0);
        due("had by the last of six", x.had(5, 4), 1);
        int[] want = {1, 0, 4, 5, 2, 3};
        for (int i = 0; i < 6; i++) {
            due("first of those without any again", x.fairest(i), want[i]);
        }
    }

    private static void make() {
        checks.part("promise 25");
        MasksAtDawn x = new MasksAtDawn();
        due("as it was", x.make(0, 1), 0);
        due("as it was", x.make(0, 1), 1);
        due("kind", x.mask(0, 0), 1);
        due("who wears it", x.person(0, 2), 1);
        due("can be undone", x.count(5), 2);
        for (int no : new int[] {-1, 2, MIN, MAX}) {
            due("no mask", x.make(no, 0), BAD);
            due("no kind", x.make(0, no), BAD);
        }
        due("nothing changed", x.count(5), 2);
        x.change(0, 1);
        due("by mask", x.make(1, 0), 1);
        due("who wears it", x.person(0, 2), 0);
        due("wages", x.dawn(0), 1);
        due("wages", x.person(0, 3), 9);
    }

    private static void falseOne() {
        checks.part("promise 26");
        MasksAtDawn x = Checks.laid("k0,0,1;k0,0,2;k0,0,1;p0;p0;p0;p0;");
        due("none", x.falseOne(), NONE);
        x.make(0, 2);
        due("two of kind 2", x.falseOne(), 2);
        x.make(3, 1);
        due("three of kind 1", x.falseOne(), 1);
        x.make(1, 0);
        due("each as many", x.falseOne(), NONE);
        x.make(2, 0);
        due("two of kind 0", x.falseOne(), 0);
        x.make(0, 0);
        due("three of kind 0", x.falseOne(), 0);
        x.undo();
        x.undo();
        due("undone", x.falseOne(), NONE);
    }

    private static void year() {
        checks.part("promise 27");
        MasksAtDawn x = new MasksAtDawn();
        x.dawn(1);
        MasksAtDawn y = new MasksAtDawn();
        y.dawn(1);
        for (int n = 1; n <= 60; n++) {
            y.dawn((9970 + n - 1) % 10000);
            for (int i = 0; i < 2; i++) {
                due("earned in all", x.year(9970, n, i, -1), y.person(i, 3));
                due("had in all", x.year(9970, n, i, 0), y.had(i, 0));
                due("had in all", x.year(9970, n, i, 1), y.had(i, 1));
            }
        }
        due("the day stays", x.count(2), 1);
        due("one can be undone", x.count(5), 1);
        due("earned", x.person(0, 3), 9);
        due("one day", x.year(0, 1, 0, -1), 14);
        for (int no : new int[] {0, 61, -1, MIN, MAX}) {
            due("no days", x.year(0, no, 0, -1), BAD);
        }
        for (int no : new int[] {-1, 10000, MIN, MAX}) {
            due("no draw", x.year(no, 1, 0, -1), BAD);
        }
        for (int no : new int[] {-1, 2, MIN, MAX}) {
            due("no person", x.year(0, 1, no, -1), BAD);
        }
        for (int no : new int[] {-2, 2, MIN, MAX}) {
            due("no kind", x.year(0, 1, 0, no), BAD);
        }
    }

    private static void keep() {
        checks.part("promise 28");
        MasksAtDawn x = new MasksAtDawn();
        due("one", x.keep(), 1);
        x.dawn(1);
        due("two", x.keep(), 2);
        x.dawn(2);
        due("full", x.keep(), FULL);
        due("count", x.count(6), 2);
        due("undone as ever", x.undo(), 1);
        due("the last one kept", x.back(), 1);
        due("day", x.count(2), 1);
        due("room again", x.keep(), 2);
    }

    private static void back() {
        checks.part("promise 29");
        MasksAtDawn x = new MasksAtDawn();
        due("nothing", x.back(), NO);
        x.sentence(0, 1);
        x.deed(1, 0);
        x.keep();
        x.make(0, 1);
        x.dawn(1);
        x.keep();
        x.pardon(0, 1);
        x.dawn(4);
        x.change(0, 1);
        x.seen(0, 0, true);
        due("the last one", x.back(), 1);
        due("nothing is undone", x.undo(), NO);
        due("count", x.count(5), 0);
        due("day", x.count(2), 1);
        due("mask", x.person(0, 1), 1);
        due("kind of a mask", x.mask(0, 0), 1);
        due("earned", x.person(0, 3), 5);
        due("had", x.had(0, 1), 1);
        due("held", x.person(1, 5), 1);
        due("wrong", x.person(1, 4), 1);
        due("seen stays", x.count(4), 1);
        x.deed(1, 5);
        due("the first one", x.back(), 0);
        due("day", x.count(2), 0);
        due("kind of a mask", x.mask(0, 0), 0);
        due("earned", x.person(0, 3), 0);
        due("had", x.had(0, 1), 0);
        due("held", x.person(1, 5), 1);
        due("wrong", x.person(1, 4), 1);
        due("nothing is undone", x.undo(), NO);
        x.dawn(0);
        due("no more", x.back(), NO);
        due("nothing changes then", x.undo(), 0);
    }

    private static void count() {
        checks.part("promise 30");
        MasksAtDawn x = Checks.laid("k0,0,1;k0,0,1;k0,0,1;p0;p0;p0;d7;");
        due("persons", x.count(0), 3);
        due("kinds", x.count(1), 3);
        x.dawn(3);
        x.dawn(3);
        x.dawn(3);
        x.dawn(3);
        due("day", x.count(2), 4);
        int judge = x.person(0, 2) == 0 ? 0 : x.person(1, 2) == 0 ? 1 : 2;
        x.sentence(judge, 0);
        x.sentence(judge, 2);
        due("held", x.count(3), 2);
        x.seen(0, 0, false);
        due("seen", x.count(4), 1);
        due("can be undone", x.count(5), 6);
        x.keep();
        due("kept", x.count(6), 1);
        due("bytes", x.count(7), 33);
        for (int no : new int[] {-1, 8, MIN, MAX}) {
            due("nothing", x.count(no), BAD);
        }
    }
}
