import java.util.ArrayList;
import java.util.List;

/** The opening of the document, sentence by sentence: what a TEXT may be, and where it is not so any more. */
public final class TextBoundaryTest {
    private static final int NO = -2, FULL = -3, NONE = -4;
    private static final String KIND = "k0,0,1;", PERSON = "p0;";
    private static final Checks checks = new Checks();

    public static void main(String[] args) {
        atMost300Bytes();
        atMost300BytesHoweverWritten();
        bytesOfAllSizes();
        itemsOneBehindTheOther();
        eachALetter();
        oneToThreeFigures();
        figuresAlone();
        partedByCommas();
        semicolonBehindTheLastOne();
        oneFigureForEachKind();
        worthsAreFigures();
        rights0To63();
        wage0To99();
        masks1To6();
        kinds5AtMost();
        kindsAreNumbered();
        noKindBehindAPerson();
        kind0IsTheJudge();
        skills0To63();
        persons6AtMost();
        worthToThePersonToldLast();
        worthOfEachKindToEach();
        worth0To9();
        worth0Without();
        lastWorthOfEach();
        work0To63();
        work0Without();
        lastWork();
        lockOfAKindToldAhead();
        locksOfAnyNumber();
        faultIsTheFirstByteOfTheItem();
        faultIsTheFirstItem();
        nothingOfATextThatWasWiped();
        checks.end();
    }

    private static void due(String call, int got, int want) {
        checks.due(call, got, want);
    }

    /** What has a FAULT can't be laid either. */
    private static void faultDue(String text, int want) {
        MasksAtDawn x = Checks.told(text);
        due("length of " + text, x.count(7), text.length());
        due("fault of " + text, x.fault(), want);
        if (want != NONE) {
            due("lay of " + text, x.lay(), NO);
        }
    }

    private static void atMost300Bytes() {
        checks.part("bytes (300 at most)");
        MasksAtDawn x = Checks.laid("k1,9,1;p1;" + "d1;".repeat(95) + "d062;");
        due("length", x.count(7), 300);
        due("fault", x.fault(), NONE);
        due("the last of 300 is read, too", x.chance(0), 0);
        due("301", x.write(1, ';'), FULL);
        due("308", x.write(8, ';'), FULL);
        due("length", x.count(7), 300);
        due("lay", x.lay(), 1);
        due("as before", x.chance(0), 0);
        faultDue("d0;".repeat(99) + "d0", 297);
        faultDue("d0;".repeat(99) + "d0x", 297);
        faultDue("d0;".repeat(99) + "d00", 297);
        faultDue("d0;".repeat(99) + "dd0", 297);
        faultDue("d0;".repeat(99) + "k0,", 297);
        faultDue("d0;".repeat(99) + "d0;", NONE);
    }

    private static void atMost300BytesHoweverWritten() {
        checks.part("bytes (300 at most)");
        for (int length = 290; length <= 300; length++) {
            for (int n = 1; n <= 8; n++) {
                MasksAtDawn x = Checks.told("d".repeat(length));
                due(n + " behind " + length, x.write(n, 0), length + n <= 300 ? length + n : FULL);
                due("length", x.count(7), length + n <= 300 ? length + n : length);
                due("wipe", x.wipe(), length + n <= 300 ? length + n : length);
                due("room again", x.write(8, 0), 8);
            }
        }
    }

    private static void bytesOfAllSizes() {
        checks.part("a TEXT is bytes");
        for (int b = 0; b < 256; b++) {
            MasksAtDawn x = Checks.told("d0;d");
            due("one byte", x.write(1, -1L << 8 | b), 5);
            due("one more", x.write(1, ';'), 6);
            due("fault by byte " + b, x.fault(), b >= '0' && b <= '9' ? NONE : 3);
        }
        for (int n = 1; n <= 8; n++) {
            MasksAtDawn x = Checks.told("d0;");
            String behind = "d01;d02;".substring(8 - n);
            long v = 0x3132333435363738L;
            for (int b = 0; b < n; b++) {
                v = v << 8 | behind.charAt(b);
            }
            due("the lowest " + n, x.write(n, v), 3 + n);
            due("fault by " + behind, x.fault(), n == 4 || n == 8 ? NONE : 3);
        }
    }

    private static void itemsOneBehindTheOther() {
        checks.part("ITEMS one behind the other");
        faultDue("", NONE);
        faultDue(KIND + PERSON, NONE);
        for (int b = 0; b < 256; b++) {
            if ("kpwdl".indexOf(b) < 0) {
                faultDue(KIND + (char) b + PERSON, 7);
                faultDue(KIND + PERSON + (char) b, 10);
                faultDue((char) b + KIND + PERSON, 0);
            }
        }
    }

    private static void eachALetter() {
        checks.part("each a letter");
        for (int b = 0; b < 256; b++) {
            faultDue(KIND + PERSON + (char) b + "0;", "pwdl".indexOf(b) >= 0 ? NONE : 10);
            faultDue((char) b + "0,0,1;", b == 'k' ? NONE : 0);
        }
        faultDue(KIND + "0;", 7);
        faultDue(KIND + "pp0;", 7);
    }

    /** Every place where a number stands. */
    private static final String[] NUMBERS = {"k#,1,1;", "k1,#,1;", "k1,1,#;", "p#;", "d#;", "k1,1,1;k1,1,1;l#;"};

    private static int placeOf(String form) {
        return form.endsWith("l#;") ? 14 : 0;
    }

    private static void oneToThreeFigures() {
        checks.part("numbers (one to three figures)");
        for (String form : NUMBERS) {
            faultDue(form.replace("#", ""), placeOf(form));
            faultDue(form.replace("#", "1"), NONE);
            faultDue(form.replace("#", "01"), NONE);
            faultDue(form.replace("#", "001"), NONE);
            faultDue(form.replace("#", "0001"), placeOf(form));
            faultDue(form.replace("#", "00001"), placeOf(form));
            faultDue(form.replace("#", "1000"), placeOf(form));
            faultDue(form.replace("#", "4294967297"), placeOf(form));
        }
        due("three figures are one number", Checks.laid("k012,034,001;p056;").mask(0, 1), 34);
        due("three figures are one number", Checks.laid("k012,034,001;p056;").mask(0, 2), 12);
        due("three figures are one number", Checks.laid("k012,034,001;p056;").person(0, 0), 56);
    }

    private static void figuresAlone() {
        checks.part("numbers (.. figures)");
        String[] others = {"/", ":", "-1", "+1", " 1", "1 ", "1/", "1:", "/1", ":1", "0x1", "1.", "a", "0a", "\u00b9"};
        for (String form : NUMBERS) {
            for (String other : others) {
                faultDue(form.replace("#", other), placeOf(form));
            }
        }
    }

    private static void partedByCommas() {
        checks.part("parted by ,");
        faultDue("k1,2,3;", NONE);
        for (String wrong : new String[] {"k1;2,3;", "k1,2;3;", "k1.2,3;", "k1,2.3;", "k1 2,3;", "k12,3;", "k1,23;",
            "k1,,2,3;", "k1,2,,3;", "k,1,2,3;", "k1,2,3,;", "k1,2;", "k1;", "k1,2,3,4;", "k1-2,3;", "k1,2+3;"}) {
            faultDue(wrong, 0);
        }
        for (String wrong : new String[] {"p1,1;", "p1,;", "p,1;", "d1,1;", "d1,;", "l0,0;", "l0,;"}) {
            faultDue(KIND + wrong, 7);
        }
    }

    private static void semicolonBehindTheLastOne() {
        checks.part("and ; (behind the last one, too)");
        for (String item : new String[] {"p1", "w0", "d1", "l0"}) {
            faultDue(KIND + PERSON + item + ";", NONE);
            faultDue(KIND + PERSON + item, 10);
            faultDue(KIND + PERSON + item + ",", 10);
            faultDue(KIND + PERSON + item + ":", 10);
            faultDue(KIND + PERSON + item + "d0;", 10);
            faultDue(KIND + PERSON + item + ";;", 13);
            faultDue(KIND + PERSON + item.charAt(0), 10);
        }
        faultDue("k0,0,1", 0);
        faultDue("k0,0,1,", 0);
        faultDue("k0,0,1p0;", 0);
        faultDue("k0,0,1;;", 7);
        faultDue("k", 0);
        faultDue("k0", 0);
        faultDue("k0,", 0);
    }

    private static void oneFigureForEachKind() {
        checks.part("S is figures instead, one for each KIND told ahead");
        for (int kinds = 0; kinds <= 5; kinds++) {
            String ahead = KIND.repeat(kinds) + PERSON;
            for (int figures = 0; figures <= 8; figures++) {
                faultDue(ahead + "w" + "7".repeat(figures) + ";", figures == kinds ? NONE : ahead.length());
                faultDue(ahead + "w" + "7".repeat(figures), ahead.length());
            }
        }
    }

    private static void worthsAreFigures() {
        checks.part("S is figures instead");
        String ahead = KIND + KIND + PERSON;
        for (int b = 0; b < 256; b++) {
            boolean figure = b >= '0' && b <= '9';
            faultDue(ahead + "w" + (char) b + "5;", figure ? NONE : ahead.length());
            faultDue(ahead + "w5" + (char) b + ";", figure ? NONE : ahead.length());
            faultDue(ahead + "w55" + (char) b, b == ';' ? NONE : ahead.length());
        }
        faultDue(ahead + "w5,5;", ahead.length());
        faultDue(ahead + "w10,5;", ahead.length());
    }

    /** Each number that three figures can tell, in all lengths. */
    private static void rangeDue(String form, int least, int most) {
        for (int number = 0; number <= 999; number++) {
            int want = number >= least && number <= most ? NONE : placeOf(form);
            faultDue(form.replace("#", "" + number), want);
            faultDue(form.replace("#", String.format("%03d", number)), want);
        }
    }

    private static void rights0To63() {
        checks.part("RIGHTS R (bits; 0 to 63)");
        rangeDue("k#,1,1;", 0, 63);
        for (int rights = 0; rights <= 63; rights++) {
            MasksAtDawn x = Checks.laid("k" + rights + ",1,1;p63;");
            due("rights", x.mask(0, 2), rights);
            for (int d = 0; d < 6; d++) {
                due("bit " + d + " of " + rights, x.deed(0, d), rights >> d & 1);
            }
        }
    }

    private static void wage0To99() {
        checks.part("WAGE W (0 to 99)");
        rangeDue("k1,#,1;", 0, 99);
        for (int wage = 0; wage <= 99; wage++) {
            MasksAtDawn x = Checks.laid("k1," + wage + ",1;p63;");
            due("wage", x.mask(0, 1), wage);
            x.dawn(0);
            due("earned", x.person(0, 3), wage);
        }
    }

    private static void masks1To6() {
        checks.part("of which there are N (1 to 6)");
        rangeDue("k1,1,#;", 1, 6);
        for (int many = 1; many <= 6; many++) {
            MasksAtDawn x = Checks.told("k1,1," + many + ";" + PERSON.repeat(many));
            due("lay", x.lay(), many);
            due("the last mask", x.mask(many - 1, 0), 0);
            due("no more", x.mask(many, 0), MasksAtDawn.BAD);
        }
    }

    private static void kinds5AtMost() {
        checks.part("KINDS: 5 at most");
        for (int kinds = 0; kinds <= 7; kinds++) {
            faultDue(KIND.repeat(kinds), kinds <= 5 ? NONE : 35);
        }
        for (int kinds = 1; kinds <= 5; kinds++) {
            MasksAtDawn x = Checks.laid(KIND.repeat(kinds) + PERSON.repeat(kinds));
            due("kinds", x.count(1), kinds);
            due("the last one", x.had(0, kinds - 1), 0);
            due("no more", x.had(0, kinds), MasksAtDawn.BAD);
        }
        due("five, and masks of six", Checks.told(KIND.repeat(4) + "k0,0,2;" + PERSON.repeat(6)).lay(), 6);
    }

    private static void kindsAreNumbered() {
        checks.part("KINDS: 0, 1, ..");
        MasksAtDawn x = Checks.laid("k1,10,1;k2,20,1;k3,30,2;k4,40,1;k5,50,1;" + PERSON.repeat(6));
        int[] kind = {0, 1, 2, 2, 3, 4};
        for (int m = 0; m < 6; m++) {
            due("kind of " + m, x.mask(m, 0), kind[m]);
            due("wage of " + m, x.mask(m, 1), 10 * kind[m] + 10);
            due("rights of " + m, x.mask(m, 2), kind[m] + 1);
        }
    }

    private static void noKindBehindAPerson() {
        checks.part("KINDS: none behind a PERSON");
        faultDue(PERSON + KIND, 3);
        faultDue(KIND + PERSON + KIND, 10);
        faultDue(KIND + PERSON + "d1;" + KIND, 13);
        faultDue(KIND + PERSON + PERSON + KIND, 13);
        faultDue("d1;" + KIND + "l0;" + KIND + "d1;l1;" + KIND + PERSON, NONE);
    }

    private static void kind0IsTheJudge() {
        checks.part("KIND 0 is the JUDGE");
        for (int judges = 1; judges <= 5; judges++) {
            MasksAtDawn x = Checks.laid("k0,0," + judges + ";k63,99," + (6 - judges) + ";" + PERSON.repeat(6));
            for (int i = 0; i < 6; i++) {
                due("sentence by " + i, x.sentence(i, 0), i < judges ? 1 : NO);
                due("pardon by " + i, x.pardon(i, 0), i < judges ? 0 : NO);
            }
        }
    }

    private static void skills0To63() {
        checks.part("SKILLS A (bits; 0 to 63)");
        rangeDue("p#;", 0, 63);
        for (int skills = 0; skills <= 63; skills++) {
            MasksAtDawn x = Checks.laid("k63,1,1;p" + skills + ";");
            due("skills", x.person(0, 0), skills);
            for (int d = 0; d < 6; d++) {
                due("bit " + d + " of " + skills, x.deed(0, d), skills >> d & 1);
            }
        }
    }

    private static void persons6AtMost() {
        checks.part("PERSONS: 6 at most, 0, 1, ..");
        for (int persons = 0; persons <= 8; persons++) {
            faultDue(PERSON.repeat(persons), persons <= 6 ? NONE : 18);
        }
        MasksAtDawn x = Checks.laid("k0,0,6;p10;p11;p12;p13;p14;p15;");
        for (int i = 0; i < 6; i++) {
            due("skills of " + i, x.person(i, 0), 10 + i);
        }
        due("no more", x.person(6, 0), MasksAtDawn.BAD);
    }

    private static void worthToThePersonToldLast() {
        checks.part("worth to the PERSON told last");
        faultDue("w;", 0);
        faultDue(KIND + "w0;", 7);
        faultDue(KIND + "w0;" + PERSON, 7);
        faultDue(KIND + PERSON + "w0;", NONE);
        faultDue(KIND + PERSON + "d0;l0;w0;", NONE);
        // 4 and 5 wear masks of one KIND
        for (int i = 0; i < 6; i++) {
            for (int j = i + 1; j < 6; j++) {
                StringBuilder text = new StringBuilder("k0,0,1;k0,0,1;k0,0,1;k0,0,1;k0,0,2;");
                for (int p = 0; p < 6; p++) {
                    text.append(PERSON).append(p == i ? oneKindAlone(j) : p == j ? oneKindAlone(i) : "");
                }
                MasksAtDawn x = Checks.laid(text.toString());
                due("liked of " + text, x.liked(0), i == 4 ? 0 : 1);
                due("which of " + text, x.liked(1), i == 4 ? NONE : 10 * i + j);
            }
        }
    }

    private static String oneKindAlone(int mask) {
        int kind = Math.min(4, mask);
        return "w" + "0".repeat(kind) + "1" + "0".repeat(4 - kind) + ";";
    }

    /** A PERSON in a mask of another KIND, and one in a mask of that KIND who would change with him. */
    private static void worthOfEachKindToEach() {
        checks.part("what each KIND is worth to the PERSON");
        for (int i = 0; i < 6; i++) {
            for (int kind = 0; kind < 5; kind++) {
                int other = i == 4 || i == 5 ? 0 : i + 1;
                boolean changes = kind == Math.min(4, i);
                int j = changes ? other : kind;
                StringBuilder text = new StringBuilder("k0,0,1;k0,0,1;k0,0,1;k0,0,1;k0,0,2;");
                for (int p = 0; p < 6; p++) {
                    text.append(PERSON);
                    text.append(p == i ? oneKindAlone(kind) : p == j ? oneKindAlone(changes ? other : i) : "");
                }
                MasksAtDawn x = Checks.laid(text.toString());
                if (changes) {
                    x.change(i, other);
                }
                due("liked of " + text, x.liked(0), 1);
                due("which of " + text, x.liked(1), 10 * Math.min(i, j) + Math.max(i, j));
            }
        }
    }

    private static void worth0To9() {
        checks.part("0 to 9 each");
        for (int own = 0; own <= 9; own++) {
            for (int other = 0; other <= 9; other++) {
                MasksAtDawn x = Checks.laid("k0,0,1;k0,0,1;p0;w" + own + other + ";p0;w10;");
                due("liked " + own + other, x.liked(0), other > own ? 1 : 0);
                x = Checks.laid("k0,0,1;k0,0,1;p0;w01;p0;w" + other + own + ";");
                due("liked " + other + own, x.liked(0), other > own ? 1 : 0);
            }
        }
    }

    private static void worth0Without() {
        checks.part("all 0 without");
        MasksAtDawn x = Checks.laid("k0,0,1;k0,0,1;p0;p0;w10;");
        due("not more than 0", x.liked(0), 0);
        due("without, each points to himself", x.rounds(0), 0);
        x = Checks.laid("k0,0,1;k0,0,1;p0;w01;p0;");
        due("not more than 0", x.liked(0), 0);
        x = Checks.told("k0,0,1;k0,0,1;p0;w01;p0;w10;");
        x.lay();
        due("with", x.liked(0), 1);
        x.lay();
        x.wipe();
        Checks.write(x, "k0,0,1;k0,0,1;p0;w01;p0;");
        x.lay();
        due("nothing of an earlier town", x.liked(0), 0);
        x.lay();
        due("nothing of an earlier town", x.liked(0), 0);
    }

    private static void lastWorthOfEach() {
        checks.part("the last one of each");
        due("last", Checks.laid("k0,0,1;k0,0,1;p0;w10;w01;p0;w10;").liked(0), 1);
        due("last", Checks.laid("k0,0,1;k0,0,1;p0;w01;w10;p0;w10;").liked(0), 0);
        due("last of three", Checks.laid("k0,0,1;k0,0,1;p0;w01;p0;w00;w99;w10;").liked(0), 1);
        due("last of three", Checks.laid("k0,0,1;k0,0,1;p0;w01;p0;w10;d0;w99;l0;w11;").liked(0), 0);
        due("each his own", Checks.laid("k0,0,1;k0,0,1;p0;w01;p0;w10;w10;").liked(0), 1);
    }

    private static void work0To63() {
        checks.part("DEEDS D (bits; 0 to 63)");
        rangeDue("d#;", 0, 63);
        for (int work = 0; work <= 63; work++) {
            for (int d = 0; d < 6; d++) {
                MasksAtDawn x = Checks.laid("k63,1,1;p" + (63 & ~(1 << d)) + ";d" + work + ";");
                due("work " + work + " without deed " + d, x.chance(0), 1 - (work >> d & 1));
            }
        }
    }

    private static void work0Without() {
        checks.part("the WORK of a day .. (0 without)");
        due("without", Checks.laid("k0,0,1;p0;").chance(0), 1);
        due("with", Checks.laid("k0,0,1;p0;d1;").chance(0), 0);
        MasksAtDawn x = Checks.laid("k0,0,1;p0;d63;");
        x.lay();
        x.wipe();
        Checks.write(x, "k0,0,1;p0;");
        x.lay();
        due("nothing of an earlier town", x.chance(0), 1);
    }

    private static void lastWork() {
        checks.part("the WORK of a day .. (the last one)");
        due("last", Checks.laid("d1;k0,0,1;d1;p0;d0;").chance(0), 1);
        due("last", Checks.laid("d0;k0,0,1;d0;p0;d1;").chance(0), 0);
        due("not together", Checks.laid("d1;k2,0,1;p2;d2;").chance(0), 1);
    }

    private static void lockOfAKindToldAhead() {
        checks.part("masks of KIND K (told ahead)");
        for (int kinds = 0; kinds <= 5; kinds++) {
            String ahead = KIND.repeat(kinds);
            for (int kind = 0; kind <= 999; kind++) {
                faultDue(ahead + "l" + kind + ";", kind < kinds ? NONE : ahead.length());
            }
            if (kinds < 5) {
                faultDue(ahead + "l" + kinds + ";" + KIND, ahead.length());
            }
        }
        for (int locked = 0; locked < 5; locked++) {
            MasksAtDawn x = Checks.laid(KIND.repeat(5) + "l" + locked + ";" + PERSON.repeat(5));
            for (int i = 0; i < 4; i++) {
                due("change with l" + locked, x.change(i, i + 1) == NO ? 1 : 0, locked == i || locked == i + 1 ? 1 : 0);
                x.undo();
            }
        }
    }

    private static void locksOfAnyNumber() {
        checks.part("any number of these");
        faultDue(KIND + "l0;".repeat(97), NONE);
        MasksAtDawn x = Checks.laid(KIND.repeat(5) + PERSON.repeat(5) + "l4;l0;l0;l4;l1;");
        due("none of 0", x.change(0, 2), NO);
        due("none of 1", x.change(1, 2), NO);
        due("none of 4", x.change(4, 2), NO);
        due("2 and 3", x.change(3, 2), 2);
        x = Checks.laid(KIND.repeat(5) + PERSON.repeat(5));
        for (int i = 1; i < 5; i++) {
            due("without", x.change(0, i), i);
        }
        x = Checks.laid(KIND.repeat(2) + PERSON.repeat(2) + "l0;l1;");
        x.lay();
        x.wipe();
        Checks.write(x, KIND.repeat(2) + PERSON.repeat(2));
        x.lay();
        due("nothing of an earlier town", x.change(0, 1), 1);
    }

    private static final String[] ITEMS = {"d0;", "k1,2,3;", "k63,99,1;", "l0;", "d63;", "k0,0,2;", "l2;", "p1;", "w123;",
        "p63;", "w000;", "w999;", "l1;", "p000;", "d7;", "p7;", "p12;", "w012;", "p0;", "w210;", "l0;", "d001;"};

    private static void faultIsTheFirstByteOfTheItem() {
        checks.part("FAULT: the place of the first byte");
        faultDue(String.join("", ITEMS), NONE);
        int place = 0;
        for (int spoiled = 0; spoiled < ITEMS.length; spoiled++) {
            String item = ITEMS[spoiled];
            for (int b = 0; b < item.length(); b++) {
                List<String> items = new ArrayList<>(List.of(ITEMS));
                items.set(spoiled, item.substring(0, b) + "?" + item.substring(b + 1));
                faultDue(String.join("", items), place);
            }
            place += item.length();
        }
        faultDue("d0;".repeat(98) + "d00;" + "?", 298);
        faultDue("d0;".repeat(97) + "d00;d00;" + "?", 299);
    }

    private static void nothingOfATextThatWasWiped() {
        checks.part("FAULT: of THE TEXT as it is");
        String text = String.join("", ITEMS);
        for (int length = 0; length <= text.length(); length++) {
            MasksAtDawn x = Checks.told(text);
            x.wipe();
            Checks.write(x, text.substring(0, length));
            int place = text.lastIndexOf(';', length - 1) + 1;
            due("fault of " + text.substring(0, length), x.fault(), place == length ? NONE : place);
        }
    }

    private static void faultIsTheFirstItem() {
        checks.part("FAULT: .. of the first ITEM that is not so");
        int place = 0;
        for (int first = 0; first < ITEMS.length; first++) {
            for (int second = first + 1; second < ITEMS.length; second++) {
                List<String> items = new ArrayList<>(List.of(ITEMS));
                items.set(first, ITEMS[first].replace(";", "?"));
                items.set(second, ITEMS[second].replace(";", "?"));
                faultDue(String.join("", items), place);
            }
            place += ITEMS[first].length();
        }
    }
}
