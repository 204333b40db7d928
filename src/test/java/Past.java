import java.util.ArrayList;
import java.util.List;

/**
 * A run of calls that can be lived again and again, and all that can be asked behind it. Two objects with one past,
 * of which one heard a call more, tell whether that call changed anything: also what is seen only when days are
 * undone, kept ones come back, masks are made or THE TEXT is laid. Each part asks a new object, so that none hears
 * more than 512 calls.
 */
final class Past {
    interface Life {
        void live(MasksAtDawn x);
    }

    interface Call {
        int on(MasksAtDawn x);
    }

    private final String name;
    private final Life life;
    private final List<String> portrait;

    Past(String name, Life life) {
        this.name = name;
        this.life = life;
        portrait = portraitBehind(x -> 0);
    }

    MasksAtDawn object() {
        MasksAtDawn x = new MasksAtDawn();
        life.live(x);
        return x;
    }

    /** The call answers what is due, and the object is then as one that did not hear it. */
    void stays(Checks checks, String call, Call refused, int want) {
        checks.due(name + ": " + call, refused.on(object()), want);
        checks.due(name + ": changed by " + call, difference(portrait, portraitBehind(refused)), "nothing");
    }

    /** Both pasts lead to the same. */
    void isLike(Checks checks, Past other) {
        checks.due(name + ": unlike " + other.name, difference(portrait, other.portrait), "nothing");
    }

    /** So that a test can be sure that a portrait would show it. */
    void isUnlike(Checks checks, Past other) {
        checks.due(name + ": like " + other.name, difference(portrait, other.portrait).equals("nothing"), false);
    }

    private static String difference(List<String> before, List<String> behind) {
        for (int line = 0; line < Math.min(before.size(), behind.size()); line++) {
            if (!before.get(line).equals(behind.get(line))) {
                return behind.get(line) + " instead of " + before.get(line);
            }
        }
        return before.size() == behind.size() ? "nothing" : "how much can be asked";
    }

    private List<String> portraitBehind(Call call) {
        List<String> lines = new ArrayList<>();
        for (int part = 0; part < 5; part++) {
            MasksAtDawn x = object();
            call.on(x);
            switch (part) {
                case 0: all(x, lines); break;
                case 1: undone(x, lines); break;
                case 2: broughtBack(x, lines); break;
                case 3: made(x, lines); break;
                default: laid(x, lines); break;
            }
        }
        return lines;
    }

    private static void all(MasksAtDawn x, List<String> lines) {
        int persons = x.count(0), kinds = x.count(1);
        lines.add("persons " + persons + ", kinds " + kinds + ", bytes " + x.count(7));
        day(x, lines);
        for (int i = 0; i < persons; i++) {
            lines.add("mask " + i + ": " + x.mask(i, 1) + " " + x.mask(i, 2));
            lines.add("skills " + x.person(i, 0) + ", rounds " + x.rounds(i) + ", all change " + x.allChange(i));
            lines.add("sure " + x.sure(i) + ", fairest " + x.fairest(i));
            for (int kind = -1; kind < kinds; kind++) {
                lines.add("year of " + i + ", " + kind + ": " + x.year(9990, 20, i, kind));
            }
        }
        lines.add("chance " + x.chance(0) + " " + x.chance(1) + ", anew " + x.anew(0) + " " + x.anew(1));
        lines.add("liked " + x.liked(0) + " " + x.liked(1) + ", all change " + x.allChange(-1));
        lines.add("fits " + x.fits() + ", fairest " + x.fairest(-1) + ", false " + x.falseOne());
        lines.add("fault " + x.fault());
    }

    private static void day(MasksAtDawn x, List<String> lines) {
        StringBuilder line = new StringBuilder("day, held, seen, can be undone, kept:");
        for (int what = 2; what <= 6; what++) {
            line.append(' ').append(x.count(what));
        }
        lines.add(line.toString());
        int persons = x.count(0), kinds = x.count(1);
        for (int i = 0; i < persons; i++) {
            line = new StringBuilder("mask, kind, earned, wrong, held, had of " + i + ":");
            for (int what = 1; what <= 5; what++) {
                line.append(' ').append(x.person(i, what));
            }
            for (int kind = 0; kind < kinds; kind++) {
                line.append(' ').append(x.had(i, kind));
            }
            lines.add(line.append(", kind of the mask ").append(x.mask(i, 0)).toString());
        }
    }

    private static void undone(MasksAtDawn x, List<String> lines) {
        int left = x.undo();
        for (; left >= 0; left = x.undo()) {
            lines.add("undone, left " + left);
            day(x, lines);
        }
        lines.add("undo at last " + left);
    }

    private static void broughtBack(MasksAtDawn x, List<String> lines) {
        int left = x.back();
        for (; left >= 0; left = x.back()) {
            lines.add("back, left " + left);
            day(x, lines);
        }
        lines.add("back at last " + left);
    }

    /** What was SEEN shows by what fits under other masks. */
    private static void made(MasksAtDawn x, List<String> lines) {
        int masks = x.count(0), kinds = x.count(1);
        for (int m = 0; m < masks; m++) {
            for (int kind = 0; kind < kinds; kind++) {
                lines.add("made: " + x.make(m, kind) + ", fits " + x.fits() + ", false " + x.falseOne());
            }
        }
        lines.add("forgotten " + x.forget() + ", fits " + x.fits());
    }

    private static void laid(MasksAtDawn x, List<String> lines) {
        lines.add("lay " + x.lay());
        all(x, lines);
    }
}
