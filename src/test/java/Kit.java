import java.util.NoSuchElementException;

/** What the tests share: texts put onto the tape, answers compared, and those that are wrong counted. */
abstract class Kit {
    /** Two rooms; p leads from one to the other, q and r into the northern one. */
    static final String ROOMS = "row wwwwwwww;row wffffffw;row wffffffw;row wffffffw;row wwwwwwww;row wfftfffw;row wffffffw;"
        + "row wwwwwwww;";
    static final String DOORS = "door p 2 4 along 3 0 may 1 may 2 costs 9;door q 0 1 across 2 2 whole;"
        + "door r 5 0 along 1 3 may 2;";
    static final String MANSION = ROOMS + DOORS + "bed 6 3;";

    /** Two rooms of five by two with a wall between them. */
    static final String HALL = "row wwwwwww;row wfffffw;row wfffffw;row wwwwwww;row wfffffw;row wfffffw;row wwwwwww;";

    /** What door() is said to answer here when it throws as the document asks. */
    static final int THROWN = -77;

    /** Numbers that are never a door, a hanging, an angle, a cell's column or row, a what or a place of images. */
    static final int[] NEVER = {Integer.MIN_VALUE, Integer.MIN_VALUE + 1, -1000000, -3, 1000000, Integer.MAX_VALUE - 1, Integer.MAX_VALUE};

    static String promise = "";
    private static int wrong;

    static void due(String call, long got, long want) {
        if (got != want) {
            wrong++;
            System.out.println(promise + ": " + call + " answered " + got + ", due is " + want);
        }
    }

    static void due(String call, boolean got, boolean want) {
        due(call, got ? 1 : 0, want ? 1 : 0);
    }

    static void due(String call, String got, String want) {
        if (!got.equals(want)) {
            wrong++;
            System.out.println(promise + ": " + call + "\n  answered " + got + "\n  due is   " + want);
        }
    }

    static void finish(String test) {
        System.out.println(test + (wrong == 0 ? ": all answers are as due" : ": " + wrong + " answers are not as due"));
        if (wrong != 0) {
            System.exit(1);
        }
    }

    /** Puts a text behind the tape, filled up with bytes 0 to whole feeds of twenty. */
    static void feed(BitingDoors x, String text) {
        for (int i = 0; i < text.length(); i += 20) {
            int[] word = new int[5];
            for (int j = 0; j < 20; j++) {
                int sign = i + j < text.length() ? text.charAt(i + j) : 0;
                word[j / 4] |= sign << 8 * (3 - j % 4);
            }
            x.feed(word[0], word[1], word[2], word[3], word[4]);
        }
    }

    static void tell(BitingDoors x, String text) {
        due("end(0)", x.end(0), true);
        feed(x, text);
        due("end(" + text.length() + ")", x.end(text.length()), true);
    }

    static BitingDoors of(String house) {
        BitingDoors x = new BitingDoors();
        tell(x, house);
        int lines = x.house();
        if (lines < 0) {
            due("house() of " + house, lines, 0);
        }
        return x;
    }

    static void dayOf(BitingDoors x, String text) {
        tell(x, text);
        if (x.day() < 0) {
            due("day() of " + text, x.fault(), 0);
        }
    }

    static String blanks(int many) {
        return " ".repeat(many);
    }

    static int doorOr(BitingDoors x, int d, int what) {
        try {
            return x.door(d, what);
        } catch (NoSuchElementException none) {
            return THROWN;
        }
    }

    /** One on whom much has been called: each thing that a later call might wrongly change has been told and has an answer of its own. */
    static BitingDoors busy() {
        BitingDoors x = of(MANSION);
        dayOf(x, "go west 1;wait 2;");
        tell(x, "length=3");
        due("sentence", x.sentence(), 1);
        due("forces", x.forces(1, 2, 1), 1);
        due("joiner", x.joiner(), 1);
        due("way", x.way(4, 2), 3);
        due("judge", x.judge(), -1);
        due("a step", x.does(3), 0);
        due("a swing", x.does(4), 0);
        due("rehang", x.rehang(2, 2), true);
        return x;
    }

    /** All that can be seen, but for fault() and the tape, as a text to compare; few enough calls to look twice. */
    static String look(BitingDoors x) {
        StringBuilder seen = new StringBuilder();
        for (int what = 0; what < 5; what++) {
            seen.append(x.count(what)).append(' ').append(x.judged(what)).append(' ');
        }
        seen.append("cells ");
        for (int i = 0; i < 10; i++) {
            seen.append(x.cell(i, i)).append(' ').append(x.cell(9 - i, i)).append(' ');
        }
        seen.append("doors ");
        for (int d = 0; d < x.count(2); d++) {
            seen.append(x.door(d, 4)).append(' ').append(x.door(d, 5)).append(' ');
        }
        seen.append("now ").append(x.place()).append(' ').append(x.minutes()).append(' ').append(x.said()).append(' ').append(x.clashes());
        seen.append(" told ");
        for (int i = 0; i < 4; i++) {
            seen.append(x.forced(i)).append(' ').append(x.forcedAt(i)).append(' ');
            seen.append(x.joinerAt(i)).append(' ').append(x.wayAt(i)).append(' ');
        }
        return seen.toString();
    }
}
