/** Runs of calls that the tests of refused calls begin with: nothing, something, and all that there may be. */
final class Lives {
    /**
     * 4 PERSONS, 3 KINDS, of which masks of the last one may not change hands; 300 bytes. Each KIND has the RIGHTS of
     * those before it, so that both what one could do and what he could not tells something.
     */
    static final String FULL_TEXT = filled("k1,9,1;k3,5,2;k7,70,1;p63;w123;p23;w321;p47;w909;p7;w555;l2;");
    static final String MIDDLE_TEXT = "k1,9,2;k6,5,1;p3;w37;p5;w73;p6;w55;d3;l1;";

    static final Past NEW = new Past("new", x -> { });
    static final Past MIDDLE = new Past("middle", Lives::middle);
    static final Past FULL = new Past("full", Lives::full);
    /** What is SEEN alone tells something here, whatever else was. */
    static final Past COULD = new Past("could", x -> x.seen(1, 1, true));
    static final Past COULD_NOT = new Past("could not", x -> x.seen(0, 1, false));
    static final Past[] ALL = {NEW, MIDDLE, FULL, COULD, COULD_NOT};

    private Lives() {
    }

    private static String filled(String text) {
        int left = 300 - text.length();
        return text + "d5;".repeat(left / 3 - left % 3) + "d05;".repeat(left % 3);
    }

    /** Some of all; THE TEXT has a FAULT. */
    static void middle(MasksAtDawn x) {
        Checks.write(x, MIDDLE_TEXT);
        x.lay();
        x.wipe();
        Checks.write(x, "k1,9,2;k6,5,1;p3;p5;p6;d");
        x.dawn(3);
        x.keep();
        x.sentence(judge(x), 1);
        x.deed(0, 5);
        look(x, 0, 0);
        look(x, 1, 2);
    }

    /** 300 bytes, 8 that can be UNDONE (of more), 10 SEEN, 2 KEPT that are unlike. */
    static void full(MasksAtDawn x) {
        Checks.write(x, FULL_TEXT);
        x.lay();
        x.deed(0, 5);
        x.sentence(0, 2);
        x.dawn(11);
        x.keep();
        x.make(1, 0);
        x.dawn(12);
        x.sentence(judge(x), 0);
        x.keep();
        x.deed(1, 3);
        x.dawn(13);
        x.pardon(judge(x), 2);
        x.make(2, 1);
        x.sentence(judge(x), 3);
        x.dawn(14);
        x.deed(3, 4);
        lookTenTimes(x);
    }

    static void lookTenTimes(MasksAtDawn x) {
        for (int n = 0; n < 10; n++) {
            look(x, n % 4, n % 3);
        }
    }

    /** SEEN as it is. */
    private static void look(MasksAtDawn x, int i, int d) {
        int could = x.person(i, 0) & x.mask(x.person(i, 1), 2);
        x.seen(i, d, (could >> d & 1) == 1);
    }

    /** Who wears a mask of a KIND, the lowest; -1 if nobody does. */
    static int wearer(MasksAtDawn x, int kind) {
        int persons = x.count(0);
        for (int i = 0; i < persons; i++) {
            if (x.person(i, 2) == kind) {
                return i;
            }
        }
        return -1;
    }

    static int judge(MasksAtDawn x) {
        return wearer(x, 0);
    }
}
