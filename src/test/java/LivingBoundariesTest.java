/** Each sentence of the document that names a boundary of one who stands, walks and opens, and of what is kept: promises 25 to 43. */
public final class LivingBoundariesTest extends Kit {
    /** A hundred cells of floor. */
    private static final String FIELD = "row ffffffffff;".repeat(10);

    /** Doors of one cell where cells 10 Y and X of unlike rows are next to one another, and where the house's halves meet. */
    private static final String SCATTERED = "row fffffffffw;row wfffffffff;row ffffffffff;row ffffffffff;row ffffwfffff;row fffffffwff;"
        + "row ffffffffff;row ffffffffff;row ffffffffff;row wffffffffw;door da 9 0 across 1 0;door db 0 1 across 1 2;door dc 4 4 along 1 0;"
        + "door dd 7 5 along 1 2;door de 0 9 across 1 2;";
    private static final int[] DOORWAYS = {9, 10, 44, 57, 90};
    private static final int[] OPENED = {8, 11, 34, 67, 91};
    private static final int[] BESIDE = {19, 20, 43, 56, 80};

    /** Three doors of one cell in the north; one who stands at 12 is at da and db, at 14 at db and dc. */
    private static final String NORTH_DOORS = HALL + "door da 1 0 along 1 2;door db 3 0 along 1 2;door dc 5 0 along 1 2;";

    /** A single way of 53 steps from the first cell to the last row. */
    private static final String SNAKE = "row ffffffffff;row wwwwwwwwwf;row ffffffffff;row fwwwwwwwww;row ffffffffff;row wwwwwwwwwf;"
        + "row ffffffffff;row fwwwwwwwww;row ffffffffff;bed 0 0;";

    public static void main(String[] args) {
        standing();
        standingOnLeaves();
        places();
        stepsAtTheRims();
        actNumbers();
        nowhere();
        eightCellsAbout();
        knocksInOrder();
        anglesEnd();
        draughtsByAngles();
        draughtsThatAreHindered();
        minutesGone();
        judgingFirstAndLast();
        judgedWhat();
        judgedSwings();
        judgedOfTen();
        living();
        wayArguments();
        wayThatStays();
        longestWay();
        wayWithDraughts();
        walking();
        reaching();
        fiveDoors();
        quietness();
        striding();
        measures();
        sweptInTheSouth();
        saidOfTen();
        images();
        counts();
        lastCall();
        finish("LivingBoundariesTest");
    }

    /** "One STANDS on a CELL (FLOOR, or of a DOORWAY, no LEAF on it ...): true; false: not so." */
    private static void standing() {
        promise = "25";
        BitingDoors x = of(FIELD + "bed 5 5;");
        int[][] no = {{10, 0}, {-1, 1}, {0, 10}, {0, -1}, {10, 9}, {-1, 0}, {10, 10}, {-1, -1}, {55, 0}};
        for (int[] at : no) {
            due("stand(" + at[0] + ", " + at[1] + ")", x.stand(at[0], at[1]), false);
            due("place", x.place(), 55);
        }
        for (int n : NEVER) {
            due("stand(" + n + ", 0)", x.stand(n, 0), false);
            due("stand(0, " + n + ")", x.stand(0, n), false);
            due("stand(" + n + ", " + n + ")", x.stand(n, n), false);
        }
        due("place", x.place(), 55);
        for (int corner : new int[] {0, 9, 90, 99}) {
            due("stand in a corner", x.stand(corner % 10, corner / 10), true);
            due("place", x.place(), corner);
        }
        x = busy();
        String before = look(x);
        int[][] refused = {{0, 0}, {3, 5}, {8, 0}, {0, 8}, {-1, 1}, {0, 1}, {5, 0}, {2, 3}, {3, 3}, {3, 2}, {4, 2}};
        for (int[] at : refused) {
            due("stand(" + at[0] + ", " + at[1] + ")", x.stand(at[0], at[1]), false);
            due("what stays", look(x), before);
        }
        due("of an empty house", new BitingDoors().stand(0, 0), false);
    }

    /** "A LEAF is in the way on all its CELLS", at each angle. */
    private static void standingOnLeaves() {
        promise = "25 (leaves)";
        int[][] leaf = {{42, 43, 44}, {23, 24, 32, 33}, {12, 22, 32}};
        for (int angle = 0; angle < 3; angle++) {
            BitingDoors x = of(MANSION);
            x.stand(5, 3);
            for (int i = 0; i < angle; i++) {
                due("opened", x.does(4), 0);
            }
            for (int cell : new int[] {11, 12, 13, 14, 21, 22, 23, 24, 31, 32, 33, 34, 42, 43, 44}) {
                boolean free = true;
                for (int taken : leaf[angle]) {
                    free = free && taken != cell;
                }
                due("stand on " + cell + " at angle " + angle, x.stand(cell % 10, cell / 10), free);
            }
            due("no minute goes by", x.minutes(), angle);
        }
    }

    /** "Where one STANDS, as 10 Y and X; NONE: nowhere", "(the bed at first; without one nowhere)". */
    private static void places() {
        promise = "26";
        due("a new object", new BitingDoors().place(), -1);
        due("without a bed", of(FIELD).place(), -1);
        due("the first cell is a place", of("row f;bed 0 0;").place(), 0);
        due("the last cell", of(FIELD + "bed 9 9;").place(), 99);
        due("the last of the first row", of(FIELD + "bed 9 0;").place(), 9);
        due("the first of the last row", of(FIELD + "bed 0 9;").place(), 90);
    }

    /** "that CELL must be FLOOR or of a DOORWAY": beyond each rim there is none. */
    private static void stepsAtTheRims() {
        promise = "27 (steps)";
        BitingDoors x = of(FIELD + "bed 0 0;");
        int[] corners = {0, 9, 99, 90};
        int[][] beyond = {{0, 3}, {0, 1}, {1, 2}, {2, 3}};
        for (int i = 0; i < 4; i++) {
            x.stand(corners[i] % 10, corners[i] / 10);
            for (int side = 0; side < 4; side++) {
                boolean out = side == beyond[i][0] || side == beyond[i][1];
                int minutes = x.minutes();
                due("does(" + side + ") from " + corners[i], x.does(side), out ? 2 : 0);
                due("minutes", x.minutes(), out ? minutes : minutes + 1);
                due("place", x.place() == corners[i], out);
                x.stand(corners[i] % 10, corners[i] / 10);
            }
        }
        x = of("row f;bed 0 0;");
        for (int side = 0; side < 4; side++) {
            due("from the only cell", x.does(side), 2);
        }
        // at all sides of one: a wall, a thing, a shut door, floor
        x = of("row wwww;row wfft;row wwww;bed 2 1;door da 2 2 along 1 0;");
        int[] knocks = {2, 2, 3, 0};
        for (int side = 0; side < 4; side++) {
            due("does(" + side + ")", x.does(side), knocks[side]);
        }
        due("place", x.place(), 11);
        due("minutes", x.minutes(), 1);
        x = of("row fff;row fff;row fff;bed 1 1;");
        int[] places = {1, 12, 21, 10};
        for (int side = 0; side < 4; side++) {
            due("does(" + side + ")", x.does(side), 0);
            due("place", x.place(), places[side]);
            x.stand(1, 1);
        }
    }

    /** Ten doors of one cell that swing to the north. */
    private static String tenBetweenRows() {
        StringBuilder ten = new StringBuilder("row ffffffffff;row wwwwwwwwww;row ffffffffff;bed 0 2;");
        for (int d = 0; d < 10; d++) {
            ten.append("door d").append((char) ('a' + d)).append(' ').append(d).append(" 1 along 1 0;");
        }
        return ten.toString();
    }

    /** "0 to 3 a STEP ..., 4 and 2 d: DOOR d opened by an ANGLE, 5 and 2 d: shut by one, -1 waiting ... NONE - 1: no such one." */
    private static void actNumbers() {
        promise = "27 (numbers)";
        BitingDoors x = new BitingDoors();
        due("a step", x.does(3), 1);
        due("no door", x.does(4), -2);
        due("below waiting", x.does(-2), -2);
        due("waiting", x.does(-1), 0);
        due("minutes", x.minutes(), 1);
        x = of(tenBetweenRows());
        for (int d = 0; d < 10; d++) {
            x.stand(d, 2);
            due("shut already", x.does(5 + 2 * d), 5);
            due("opened", x.does(4 + 2 * d), 0);
            due("angle", doorOr(x, d, 5), 1);
            due("shut", x.does(5 + 2 * d), 0);
            due("angle", doorOr(x, d, 5), 0);
        }
        due("beyond the last door", x.does(24), -2);
        due("minutes", x.minutes(), 20);
        x = busy();
        String before = look(x);
        int[] refused = {10, 11, 24, -2, 1 << 30};
        for (int act : refused) {
            due("does(" + act + ")", x.does(act), -2);
        }
        for (int n : NEVER) {
            due("does(" + n + ")", x.does(n), -2);
        }
        due("what stays", look(x), before);
    }

    /** "1 one STANDS nowhere": of steps and swings; waiting needs nobody. */
    private static void nowhere() {
        promise = "27, 30 (nowhere)";
        BitingDoors x = of(ROOMS + DOORS);
        for (int act = 0; act < 10; act++) {
            due("does(" + act + ")", x.does(act), 1);
        }
        due("does(10)", x.does(10), -2);
        due("does(-2)", x.does(-2), -2);
        due("minutes", x.minutes(), 0);
        due("waiting", x.does(-1), 0);
        due("minutes", x.minutes(), 1);
        due("place", x.place(), -1);
        for (String act : new String[] {"go north 1;", "go east 30;", "open p;", "shut p;"}) {
            dayOf(x, act);
            due("judge() of " + act, x.judge(), 0);
            due("knock", x.judged(0), 1);
            due("minutes", x.judged(1), 0);
            due("place", x.judged(2), -1);
        }
        dayOf(x, "wait 30;wait 1;");
        due("waiting", x.judge(), -1);
        due("minutes", x.judged(1), 31);
        due("quiet", x.quiet(), 1);
    }

    private static boolean isAbout(int cell, int other) {
        int dx = cell % 10 - other % 10;
        int dy = cell / 10 - other / 10;
        return cell != other && dx * dx <= 1 && dy * dy <= 1;
    }

    /** "one of the eight CELLS about the one on which one STANDS is of its LEAF of now, or of its DOORWAY", in all cells, at rims too. */
    private static void eightCellsAbout() {
        promise = "27, 40 (about)";
        for (int d = 0; d < DOORWAYS.length; d++) {
            BitingDoors x = of(SCATTERED);
            for (int cell = 0; cell < 100; cell++) {
                if (x.stand(cell % 10, cell / 10)) {
                    due("shut at " + cell + " door " + d, x.does(5 + 2 * d), isAbout(cell, DOORWAYS[d]) ? 5 : 4);
                }
            }
            x = of(SCATTERED);
            due("stand", x.stand(BESIDE[d] % 10, BESIDE[d] / 10), true);
            due("to 1", x.does(4 + 2 * d), 0);
            due("to 2", x.does(4 + 2 * d), 0);
            tell(x, "at");
            x.sentence();
            for (int cell = 0; cell < 100; cell++) {
                if (x.stand(cell % 10, cell / 10)) {
                    boolean at = isAbout(cell, DOORWAYS[d]) || isAbout(cell, OPENED[d]);
                    due("opened at " + cell + " door " + d, x.does(4 + 2 * d), at ? 5 : 4);
                    due("said at " + cell + " of door " + d, x.said() >> d & 1, at ? 1 : 0);
                }
            }
        }
    }

    /** "A KNOCK, the first, of one MINUTE the least". */
    private static void knocksInOrder() {
        promise = "27 (knocks)";
        BitingDoors x = of(MANSION);
        x.stand(6, 1);
        due("4 ahead of 5: p is shut", x.does(5), 4);
        x.stand(6, 6);
        due("4 ahead of 6: r can't be", of(MANSION).does(8), 4);
        // da at angle 1 would be on a thing and on one's own place: 6 ahead of 7
        x = of("row wwf;row ftf;row fff;door da 0 0 along 2 2;bed 0 1;");
        due("6 ahead of 7", x.does(4), 6);
        x = of("row wwf;row fff;row tff;door da 0 0 along 2 2;bed 2 0;");
        due("to 1", x.does(4), 0);
        due("at 1, can't be at 2", x.does(4), 6);
        due("does() is not so already at 1", doorOr(x, 0, 5), 1);
        due("back to 0", x.does(5), 0);
        due("at 0", x.does(5), 5);
        // a leaf and one's own place, each alone
        x = of("row www;row fff;row www;door da 0 0 along 2 2;door db 1 2 along 1 0;bed 2 1;");
        due("db to 1", x.does(6), 0);
        due("da to 1: a leaf", x.does(4), 7);
        due("db to 0", x.does(7), 0);
        due("da to 1", x.does(4), 0);
        due("db to 1: a leaf", x.does(6), 7);
        due("da to 0", x.does(5), 0);
        x.stand(1, 1);
        due("da to 1: one's own place", x.does(4), 7);
        due("db to 1: one's own place", x.does(6), 7);
        due("nothing was done", x.minutes(), 4);
        // one's own place is the first cell of all, or the last one
        x = of("row fff;row wff;row fff;door da 0 1 along 1 0;bed 0 0;");
        due("the first cell", x.does(4), 7);
        x = of(FIELD.substring(0, 120) + "row fffffffffw;row ffffffffff;door da 9 8 along 1 2;bed 9 9;");
        due("the last cell", x.does(4), 7);
        x.stand(8, 9);
        due("beside it", x.does(4), 0);
        // what is beyond a shut door is not looked at
        x = of("row fwf;door da 1 0 across 1 0;bed 0 0;");
        due("a leaf", x.does(1), 3);
    }

    /** "ANGLE 0 to 2", step by step, for doors of each length. */
    private static void anglesEnd() {
        promise = "27 (angles)";
        for (int length = 1; length <= 3; length++) {
            BitingDoors x = of("row wwww;row ffff;row ffff;row ffff;door da 0 0 along " + length + " 2;bed " + length + " 1;");
            int[] acts = {5, 4, 4, 4, 5, 5, 5, 4};
            int[] knocks = {5, 0, 0, 5, 0, 0, 5, 0};
            int[] angles = {0, 1, 2, 2, 1, 0, 0, 1};
            int done = 0;
            for (int i = 0; i < acts.length; i++) {
                due("length " + length + ", turn " + i, x.does(acts[i]), knocks[i]);
                due("angle", doorOr(x, 0, 5), angles[i]);
                done += knocks[i] == 0 ? 1 : 0;
                due("minutes", x.minutes(), done);
            }
        }
    }

    /** "if A and B are at ANGLE 1 or 2, and C too, C is shut by one ANGLE": for all angles of the three. */
    private static void draughtsByAngles() {
        promise = "27, 37 (draughts)";
        for (int angles = 0; angles < 27; angles++) {
            int a = angles % 3;
            int b = angles / 3 % 3;
            int c = angles / 9;
            BitingDoors x = of(NORTH_DOORS + "draught da db dc;bed 4 1;");
            opens(x, 2, c);
            x.stand(2, 1);
            opens(x, 0, a);
            opens(x, 1, b);
            // each minute in which db was opened is one in which it blew, if da is open
            boolean blows = a > 0 && b > 0;
            int left = blows ? Math.max(0, c - b) : c;
            String which = "da " + a + ", db " + b + ", dc " + c;
            due(which, doorOr(x, 2, 5), left);
            due(which + ", quiet", x.quiet(), blows ? left + 1 : 1);
            due("waits", x.does(-1), 0);
            due(which + ", and a minute", doorOr(x, 2, 5), blows ? Math.max(0, left - 1) : left);
            due("da stays", doorOr(x, 0, 5), a);
            due("db stays", doorOr(x, 1, 5), b);
        }
    }

    private static void opens(BitingDoors x, int d, int times) {
        for (int i = 0; i < times; i++) {
            due("door " + d + " opened", x.does(4 + 2 * d), 0);
        }
    }

    /** "C is shut by one ANGLE, if it could be swung so (wherever one STANDS, but not onto him)". */
    private static void draughtsThatAreHindered() {
        promise = "27, 37 (draughts hindered)";
        // dc by 0: at angle 1 on 15 25, at angle 2 on 14 15
        String house = "row wwwwwww;row ffffffw;row ffffffw;row ffffffw;row ffffffw;row wwwwwww;door da 0 5 along 1 0;door db 2 5 along 1 0;"
            + "door dc 6 1 across 2 0;draught da db dc;bed 3 3;";
        BitingDoors x = of(house);
        x.stand(5, 3);
        opens(x, 2, 2);
        due("onto 25", x.stand(5, 2), true);
        x.does(-1);
        x.stand(1, 4);
        opens(x, 0, 1);
        due("onto 25 again", x.stand(5, 2), true);
        due("not at db there", x.does(6), 4);
        x.stand(1, 4);
        opens(x, 1, 1);
        due("far off one does not hinder it", doorOr(x, 2, 5), 1);
        x.does(-1);
        due("and it is shut", doorOr(x, 2, 5), 0);
        // the same with one who stands where it would go to
        x = of(house.replace("db 2 5 along 1 0", "db 6 3 across 1 0"));
        x.stand(5, 3);
        opens(x, 2, 2);
        x.stand(1, 4);
        opens(x, 0, 1);
        due("onto 25", x.stand(5, 2), true);
        due("db opened, at 35", x.does(6), 0);
        due("not onto him", doorOr(x, 2, 5), 2);
        due("quiet with him there", x.quiet(), 1);
        x.stand(4, 3);
        due("quiet without him", x.quiet(), 3);
        // a leaf where it would go to: dd at angle 1 on 25
        x = of("row wwwwwwww;row ffffffwf;row ffffffwf;row wwwwwwww;door da 0 0 along 1 2;door db 2 0 along 1 2;door dc 6 1 across 2 0;"
            + "door dd 5 3 along 1 0;draught da db dc;bed 7 1;");
        opens(x, 2, 2);
        x.stand(4, 2);
        opens(x, 3, 1);
        x.stand(1, 1);
        opens(x, 0, 1);
        opens(x, 1, 1);
        due("a leaf is in the way", doorOr(x, 2, 5), 2);
        due("quiet", x.quiet(), 1);
        x.stand(4, 2);
        due("dd to 0", x.does(11), 0);
        due("the way is free again", doorOr(x, 2, 5), 1);
        due("quiet", x.quiet(), 2);
    }

    /** "MINUTES that have gone by by does(), live() and walk() since the HOUSE was told." */
    private static void minutesGone() {
        promise = "28";
        BitingDoors x = new BitingDoors();
        due("at first", x.minutes(), 0);
        x.does(-1);
        due("a minute without a house told", x.minutes(), 1);
        tell(x, MANSION);
        x.house();
        due("a new house", x.minutes(), 0);
        dayOf(x, "wait 30;".repeat(60));
        due("judge", x.judge(), -1);
        due("judge() takes none", x.minutes(), 0);
        due("live", x.live(), -1);
        due("the longest day", x.minutes(), 1800);
        due("live", x.live(), -1);
        due("twice", x.minutes(), 3600);
        x.way(6, 1);
        x.stride();
        x.reach(1);
        x.quiet();
        x.stand(6, 3);
        x.rehang(0, 1);
        due("these take none", x.minutes(), 3600);
        due("walk", x.walk(), 2);
        due("walk() takes its own", x.minutes(), 3602);
        due("a knock", x.does(0), 2);
        due("a knock takes none", x.minutes(), 3602);
        x.image(0);
        x.does(-1);
        x.restore(0);
        due("restore() leaves them", x.minutes(), 3603);
        tell(x, "row x;");
        x.house();
        due("a fault leaves them", x.minutes(), 3603);
        due("an empty house", x.house(), 0);
        due("a new house", x.minutes(), 0);
    }

    /** "the first ACT with a KNOCK; NONE: none." */
    private static void judgingFirstAndLast() {
        promise = "30";
        BitingDoors x = of(MANSION);
        due("no day", x.judge(), -1);
        due("judged(1)", x.judged(1), 0);
        dayOf(x, "");
        due("an empty day", x.judge(), -1);
        due("judged(2)", x.judged(2), 36);
        dayOf(x, "go east 1;wait 1;");
        due("the first", x.judge(), 0);
        due("no minute", x.judged(1), 0);
        dayOf(x, "wait 1;".repeat(59) + "go east 1;");
        due("the last of sixty", x.judge(), 59);
        due("minutes", x.judged(1), 59);
        dayOf(x, "wait 1;".repeat(59) + "go west 5;");
        due("none", x.judge(), -1);
        due("minutes", x.judged(1), 64);
        dayOf(x, "go west 5;go west 1;");
        due("as far as the wall", x.judge(), 1);
        due("minutes", x.judged(1), 5);
        dayOf(x, "go west 6;");
        due("within one act", x.judge(), 0);
        due("minutes", x.judged(1), 5);
        due("place", x.judged(2), 31);
        dayOf(x, "go west 30;");
        due("far beyond", x.judge(), 0);
        due("minutes", x.judged(1), 5);
        due("now stays", x.place(), 36);
        due("minutes", x.minutes(), 0);
        // knocks of steps
        dayOf(x, "go west 2;go south 1;");
        due("a leaf", x.judge(), 1);
        due("knock", x.judged(0), 3);
    }

    /** "NONE - 1 for another what, or ahead of any." */
    private static void judgedWhat() {
        promise = "31";
        BitingDoors x = new BitingDoors();
        for (int what = -2; what < 7; what++) {
            due("judged(" + what + ") ahead of any", x.judged(what), -2);
        }
        due("judge", x.judge(), -1);
        int[] nothing = {0, 0, -1, 0, 0};
        for (int what = 0; what < 5; what++) {
            due("judged(" + what + ")", x.judged(what), nothing[what]);
        }
        due("judged(5)", x.judged(5), -2);
        due("judged(-1)", x.judged(-1), -2);
        for (int n : NEVER) {
            due("judged(" + n + ")", x.judged(n), -2);
        }
        x = new BitingDoors();
        due("live", x.live(), -1);
        due("judged(0) of live()", x.judged(0), 0);
        // it stays, whatever is done
        x = busy();
        int[] busy = {0, 3, 35, 0, 0};
        x.does(-1);
        tell(x, "");
        x.day();
        x.house();
        x.image(0);
        x.restore(0);
        for (int what = 0; what < 5; what++) {
            due("judged(" + what + ")", x.judged(what), busy[what]);
        }
    }

    /** "as many MINUTES as ANGLES lack when the ACT begins (one, if none does), each a SWING, or waiting, if it is so then." */
    private static void judgedSwings() {
        promise = "30, 31 (swings)";
        // at each angle at first: how many minutes 'open' and 'shut' take, or that they knock
        int[] opens = {2, 1, -5};
        int[] shuts = {-5, 1, 2};
        for (int angle = 0; angle < 3; angle++) {
            BitingDoors x = of(MANSION);
            x.stand(5, 3);
            opens(x, 0, angle);
            judgedDay(x, "open p;", opens[angle]);
            judgedDay(x, "shut p;", shuts[angle]);
        }
        // one that can't be at angle 2
        for (int angle = 0; angle < 2; angle++) {
            BitingDoors x = of("row wwf;row fff;row tff;door da 0 0 along 2 2;bed 2 0;");
            opens(x, 0, angle);
            judgedDay(x, "open da;", angle == 0 ? 1 : -5);
            judgedDay(x, "shut da;", angle == 0 ? -5 : 1);
        }
        // one that can't be at angle 1, or at none
        judgedDay(of("row wwf;row ftf;row fff;door da 0 0 along 2 2;bed 2 0;"), "open da;", -6);
        judgedDay(of("row wwf;row ttf;row fff;door da 0 0 along 2 2;bed 2 0;"), "open da;", -6);
        judgedDay(of("row wwf;row fff;row fff;door da 0 0 along 2 2;bed 1 1;"), "open da;", -7);
        // not at it comes ahead of so already
        judgedDay(of(MANSION), "shut p;", -4);
        judgedDay(of(MANSION), "open p;", -4);
        // at it at the leaf's end alone: shut by one, the leaf is out of reach, the doorway too
        BitingDoors x = of("row wwwwww;row ffffff;row ffffff;row ffffff;row ffffff;door da 2 0 along 3 2;bed 1 4;");
        x.stand(1, 1);
        opens(x, 0, 2);
        x.stand(1, 4);
        dayOf(x, "shut da;");
        due("judge", x.judge(), 0);
        due("knock in the second minute", x.judged(0), 4);
        due("minutes", x.judged(1), 1);
        due("da is open", x.judged(4), 1);
    }

    /** "4 DOORS that are not at ANGLE 0, as bits": all ten. */
    private static void judgedOfTen() {
        promise = "31 (ten doors)";
        BitingDoors x = of(tenBetweenRows());
        due("judge", x.judge(), -1);
        due("none is open", x.judged(4), 0);
        for (int d = 0; d < 10; d++) {
            x.stand(d, 2);
            opens(x, d, 1);
            due("live", x.live(), -1);
            due("open doors", x.judged(4), (2 << d) - 1);
        }
    }

    /** A day of one act: so many minutes, or, below 0, that knock at once. */
    private static void judgedDay(BitingDoors x, String day, int minutes) {
        dayOf(x, day);
        due("judge() of " + day, x.judge(), minutes < 0 ? 0 : -1);
        due("knock of " + day, x.judged(0), minutes < 0 ? -minutes : 0);
        due("minutes of " + day, x.judged(1), Math.max(0, minutes));
    }

    /** "The DAY is DONE up to its first KNOCK, and NOW is as it is then: as for judge()." */
    private static void living() {
        promise = "32";
        BitingDoors x = of(MANSION);
        dayOf(x, "go west 1;open p;go east 1;go east 1;shut p;");
        due("judge", x.judge(), 3);
        due("now stays", x.place(), 36);
        due("live", x.live(), 3);
        due("knock", x.judged(0), 2);
        due("minutes of the day", x.judged(1), 4);
        due("place", x.judged(2), 36);
        due("open doors", x.judged(4), 1);
        due("now", x.place(), 36);
        due("angle", doorOr(x, 0, 5), 2);
        due("what is behind the knock is not done", doorOr(x, 0, 5), 2);
        due("minutes", x.minutes(), 4);
        due("the day stays", x.count(4), 5);
        due("from now on", x.live(), 1);
        due("knock", x.judged(0), 5);
        due("minutes of this one", x.judged(1), 1);
        due("minutes", x.minutes(), 5);
        x = new BitingDoors();
        due("live() without a day", x.live(), -1);
        due("minutes", x.minutes(), 0);
    }

    /** "-2: no such CELL, WALL or a THING, one STANDS nowhere, or more than 5 DOORS." */
    private static void wayArguments() {
        promise = "33";
        BitingDoors x = of(FIELD + "bed 0 0;");
        due("the last cell", x.way(9, 9), 18);
        int[][] no = {{10, 0}, {0, 10}, {-1, 1}, {1, -1}, {10, 9}, {-1, -1}};
        for (int[] at : no) {
            due("way(" + at[0] + ", " + at[1] + ")", x.way(at[0], at[1]), -2);
        }
        for (int n : NEVER) {
            due("way(" + n + ", 0)", x.way(n, 0), -2);
            due("way(0, " + n + ")", x.way(0, n), -2);
        }
        due("the latest stays", x.wayAt(17), 2);
        due("wayAt(18)", x.wayAt(18), -1);
        due("where one stands", x.way(0, 0), 0);
        x = of("row fwtf;bed 0 0;");
        due("a wall", x.way(1, 0), -2);
        due("a thing", x.way(2, 0), -2);
        due("none", x.way(3, 0), -1);
        x = of("row ff;");
        due("nowhere", x.way(0, 0), -2);
        due("stand", x.stand(1, 0), true);
        due("way", x.way(0, 0), 1);
        due("west", x.wayAt(0), 3);
        due("an empty house", new BitingDoors().way(0, 0), -2);
    }

    /** "the latest way() that was 0 or above", "NONE: there is none such, or ahead of any". */
    private static void wayThatStays() {
        promise = "34";
        BitingDoors x = of("row ffwf;bed 0 0;");
        due("ahead of any", x.wayAt(0), -1);
        due("ahead of any", x.wayAt(-1), -1);
        due("one that is NONE", x.way(3, 0), -1);
        due("still ahead of any", x.wayAt(0), -1);
        due("way", x.way(1, 0), 1);
        due("wayAt(0)", x.wayAt(0), 1);
        due("wayAt(1)", x.wayAt(1), -1);
        due("wayAt(-1)", x.wayAt(-1), -1);
        for (int n : NEVER) {
            due("wayAt(" + n + ")", x.wayAt(n), -1);
        }
        due("NONE", x.way(3, 0), -1);
        due("stays", x.wayAt(0), 1);
        due("-2", x.way(2, 0), -2);
        due("stays", x.wayAt(0), 1);
        due("-2", x.way(4, 0), -2);
        due("stays", x.wayAt(0), 1);
        x.reach(0);
        x.reach(1);
        x.stride();
        due("stays", x.wayAt(0), 1);
        due("0 is a way", x.way(0, 0), 0);
        due("of no minutes", x.wayAt(0), -1);
    }

    private static void longestWay() {
        promise = "33, 34, 35 (a long way)";
        BitingDoors x = of(SNAKE);
        due("a short way first", x.way(3, 0), 3);
        due("way", x.way(9, 8), 53);
        due("reach", x.reach(1), 54);
        due("reach", x.reach(0), 54);
        int[] acts = {1, 2, 3, 2, 1, 2, 3, 2, 1};
        int at = 0;
        for (int i = 0; i < acts.length; i++) {
            for (int j = 0; j < (i % 2 == 0 ? 9 : 2); j++) {
                due("wayAt(" + at + ")", x.wayAt(at), acts[i]);
                at++;
            }
        }
        due("wayAt(53)", x.wayAt(53), -1);
        due("walk", x.walk(), 53);
        due("place", x.place(), 89);
        due("minutes", x.minutes(), 53);
        due("stride", x.stride(), 53);
    }

    /** A WAY is of MINUTES, at the end of which draughts blow: what they shut is in the way no more, or is again. */
    private static void wayWithDraughts() {
        promise = "33, 34, 35 (draughts)";
        // dc leads to the south, and with da and db open it is shut as soon as it is opened: db is shut first
        BitingDoors x = of(HALL + "door da 1 0 along 1 2;door db 5 0 along 1 2;door dc 2 3 along 2 0;draught da db dc;bed 4 2;");
        due("way with all shut", x.way(3, 4), 5);
        x.stand(2, 1);
        opens(x, 0, 1);
        x.stand(4, 1);
        opens(x, 1, 1);
        x.stand(4, 2);
        due("way", x.way(3, 4), 6);
        int[] acts = {7, 8, 8, 3, 2, 2};
        for (int i = 0; i < acts.length; i++) {
            due("wayAt(" + i + ")", x.wayAt(i), acts[i]);
        }
        due("reach", x.reach(1), 22);
        due("walk", x.walk(), 6);
        due("dc", doorOr(x, 2, 5), 2);
        due("place", x.place(), 43);
        // dc has a leaf on the cell to go to, and is shut while one goes
        x = of(NORTH_DOORS + "draught da db dc;bed 4 1;");
        opens(x, 2, 2);
        x.stand(2, 1);
        opens(x, 0, 1);
        opens(x, 1, 1);
        due("dc", doorOr(x, 2, 5), 1);
        x.stand(4, 2);
        due("way", x.way(5, 1), 2);
        due("wayAt(0)", x.wayAt(0), 0);
        due("wayAt(1)", x.wayAt(1), 1);
        due("as all stands one can't come there", x.reach(0), 7);
        due("walk", x.walk(), 2);
        due("place", x.place(), 15);
    }

    /** "The latest such way() is gone from NOW on, as far as nothing knocks: how many MINUTES." */
    private static void walking() {
        promise = "35";
        BitingDoors x = of("row ffffwff;bed 0 0;");
        due("ahead of any", x.walk(), 0);
        due("way", x.way(2, 0), 2);
        due("walk", x.walk(), 2);
        due("place", x.place(), 2);
        due("from there on: one step, then the wall", x.walk(), 1);
        due("place", x.place(), 3);
        due("no step more", x.walk(), 0);
        due("minutes", x.minutes(), 3);
        due("a way that is none", x.way(6, 0), -1);
        x.stand(0, 0);
        due("the latest such one", x.walk(), 2);
        due("the way of nothing", x.way(2, 0), 0);
        due("walk", x.walk(), 0);
        due("minutes", x.minutes(), 5);
        // a swing of a door that the new house has not
        x = of(HALL + "door da 2 3 along 2 0;bed 4 2;");
        due("way", x.way(3, 4), 5);
        tell(x, "row fff;");
        x.house();
        due("nowhere, and no such door", x.walk(), 0);
        due("minutes", x.minutes(), 0);
        x = of(HALL + "bed 4 2;");
        due("way", x.way(5, 1), 2);
        tell(x, "row f;row f;row f;");
        x.house();
        due("nowhere", x.walk(), 0);
        x.stand(0, 2);
        due("north, then beyond", x.walk(), 1);
        due("place", x.place(), 10);
    }

    /** "NONE: another what, one STANDS nowhere; -2: what 1 and more than 5 DOORS." */
    private static void reaching() {
        promise = "36";
        BitingDoors x = of(FIELD + "bed 9 9;");
        due("all", x.reach(0), 100);
        due("all", x.reach(1), 100);
        due("another what", x.reach(2), -1);
        due("another what", x.reach(-1), -1);
        for (int n : NEVER) {
            due("reach(" + n + ")", x.reach(n), -1);
        }
        x = of("row f;bed 0 0;");
        due("one's own place", x.reach(0), 1);
        due("one's own place", x.reach(1), 1);
        x = of("row ftf;row tff;bed 0 0;");
        due("not across a corner", x.reach(0), 1);
        x.stand(2, 1);
        due("round a corner", x.reach(0), 3);
        x = of("row ff;");
        due("nowhere", x.reach(0), -1);
        due("nowhere", x.reach(1), -1);
        due("an empty house", new BitingDoors().reach(0), -1);
        due("an empty house", new BitingDoors().reach(1), -1);
        // the first cell, with a door opened from it: its doorway is come to, and no cell is counted twice
        x = of("row fff;row www;row fff;door da 1 1 along 1 2;bed 0 0;");
        due("reach(0)", x.reach(0), 3);
        due("reach(1)", x.reach(1), 4);
        // the first and the last column are not next to one another
        x = of("row fwwwwwwwwf;row fwwwwwwwwf;bed 0 1;");
        due("no wrap-around", x.reach(0), 2);
        x.stand(9, 0);
        due("no wrap-around", x.reach(1), 2);
        due("no way around", x.way(0, 1), -1);
    }

    private static String doorsInARow(int many) {
        StringBuilder house = new StringBuilder("row wwwwwwwwww;row ffffffffff;bed 0 1;");
        for (int d = 0; d < many; d++) {
            house.append("door d").append((char) ('a' + d)).append(' ').append(d).append(" 0 along 1 2;");
        }
        return house.toString();
    }

    /** "HOUSES of 5 DOORS at most." */
    private static void fiveDoors() {
        promise = "33, 36, 38 (doors)";
        for (int many : new int[] {0, 1, 4, 5, 6, 10}) {
            BitingDoors x = of(doorsInARow(many));
            boolean searched = many <= 5;
            due(many + " doors: way", x.way(9, 1), searched ? 9 : -2);
            due(many + " doors: wayAt", x.wayAt(8), searched ? 1 : -1);
            due(many + " doors: one's own place", x.way(0, 1), searched ? 0 : -2);
            due(many + " doors: reach(1)", x.reach(1), searched ? 10 : -2);
            due(many + " doors: reach(0)", x.reach(0), 10);
            due(many + " doors: reach(2)", x.reach(2), -1);
            due(many + " doors: stride", x.stride(), searched ? 0 : -2);
        }
        BitingDoors x = of(doorsInARow(6).replace("bed 0 1;", ""));
        due("nowhere in a house of six doors: reach(0)", x.reach(0), -1);
        due("nowhere in a house of six doors: reach(1)", x.reach(1), -1);
        due("nowhere in a house of six doors: way", x.way(0, 1), -2);
        // five doors, each at each of its angles: all states are gone through
        x = of("row wwwwwwwwww;row ffffffffff;row ffffffffff;row wwwwwwwwww;door da 0 0 along 1 2;door db 2 0 along 1 2;door dc 4 0 along 1 2;"
            + "door dd 6 0 along 1 2;door de 8 0 along 1 2;bed 0 2;");
        due("reach(1)", x.reach(1), 20);
        due("way", x.way(8, 1), 9);
        due("stride", x.stride(), 0);
        for (int d = 0; d < 5; d++) {
            x.stand(2 * d, 2);
            due("two rows off", x.does(4 + 2 * d), 4);
            x.stand(2 * d + 1, 1);
            opens(x, d, 2);
        }
        due("reach(0) among the leaves", x.reach(0), 15);
        due("reach(1) shuts them again", x.reach(1), 20);
        due("stride", x.stride(), 10);
    }

    /** "(the last one, in which nothing is shut, too)". */
    private static void quietness() {
        promise = "37";
        due("an empty house", new BitingDoors().quiet(), 1);
        due("no draughts", of(MANSION).quiet(), 1);
        // two draughts that shut the same door: by two angles in a minute
        BitingDoors x = of(NORTH_DOORS + "draught da db dc;draught db da dc;bed 4 1;");
        opens(x, 2, 2);
        x.stand(2, 1);
        opens(x, 0, 1);
        due("ahead of it", x.quiet(), 1);
        x.image(0);
        due("db to 1: both blow", x.does(6), 0);
        due("dc", doorOr(x, 2, 5), 0);
        x.restore(0);
        dayOf(x, "open db;");
        due("judge", x.judge(), -1);
        due("how many times one shut", x.judged(3), 2);
        due("open doors", x.judged(4), 3);
        // each draught shuts one of the doors that another one needs: da first, and then nothing blows
        x = of(NORTH_DOORS + "draught da db dc;draught db dc da;draught dc da db;bed 4 1;");
        opens(x, 2, 2);
        x.stand(2, 1);
        opens(x, 0, 2);
        due("db to 1: dc to 1, da to 1, db to 0", x.does(6), 0);
        due("dc", doorOr(x, 2, 5), 1);
        due("da", doorOr(x, 0, 5), 1);
        due("db", doorOr(x, 1, 5), 0);
        due("quiet", x.quiet(), 1);
        due("now stays", doorOr(x, 2, 5), 1);
    }

    /** "NONE: there is none; -2: no bed, one STANDS nowhere, or more than 5 DOORS (the latest way() stays)." */
    private static void striding() {
        promise = "38";
        due("an empty house", new BitingDoors().stride(), -2);
        BitingDoors x = of("row fff;");
        due("no bed, nowhere", x.stride(), -2);
        x.stand(0, 0);
        due("no bed", x.stride(), -2);
        x = of("row fffwf;bed 0 0;");
        due("at it", x.stride(), 0);
        x.stand(2, 0);
        due("way", x.way(1, 0), 1);
        due("stride", x.stride(), 2);
        due("the latest way stays", x.wayAt(0), 3);
        due("the latest way stays", x.wayAt(1), -1);
        x.stand(4, 0);
        due("none", x.stride(), -1);
        due("the latest way stays", x.wayAt(0), 3);
        // the bed where a leaf is: it is shut on the way
        x = of("row ww;row ff;row ff;door da 0 0 along 1 2;bed 0 1;");
        x.stand(1, 1);
        opens(x, 0, 1);
        due("a leaf on the bed", x.stride(), 2);
        due("now stays", doorOr(x, 0, 5), 1);
    }

    private static void saidIs(BitingDoors x, String text, int doors) {
        tell(x, text);
        due("sentence() of " + text, x.sentence() > 0, true);
        due("said() of " + text, x.said(), doors);
    }

    /** "( 'angle' | 'length' | 'sweeps' | 'may' | 'costs' ) SIGN NUMBER": just below, at and just above what is so. */
    private static void measures() {
        promise = "39, 40 (measures)";
        BitingDoors x = of("row wwwww;row fffff;row fffff;row fffff;door da 0 0 along 3 2 may 0 may 3 costs 99;bed 3 1;");
        // by 2 it sweeps 10 11 21 22, and 10 20 30
        String[] names = {"angle", "length", "sweeps", "may", "costs"};
        int[] so = {0, 3, 6, 2, 99};
        for (int i = 0; i < 5; i++) {
            measureIs(x, names[i], so[i]);
        }
        x.does(4);
        measureIs(x, "angle", 1);
        saidIs(x, "open", 1);
        x.does(4);
        measureIs(x, "angle", 2);
        saidIs(x, "open", 1);
        x.does(5);
        x.does(5);
        saidIs(x, "open", 0);
        x = of("row w;row t;door da 0 0 along 1 2 may 0;");
        measureIs(x, "sweeps", 0);
        measureIs(x, "may", 0);
        measureIs(x, "costs", 1);
        measureIs(x, "length", 1);
        saidIs(x, "fit or at or open or bites da", 0);
        // by the hanging of now: first one that is not fit and sweeps nothing, then one that is
        x = of("row w;row f;door da 0 0 along 1 0 may 2;bed 0 1;");
        saidIs(x, "fit", 0);
        measureIs(x, "sweeps", 0);
        measureIs(x, "may", 1);
        x.rehang(0, 2);
        saidIs(x, "fit", 1);
        measureIs(x, "sweeps", 1);
    }

    /** Cells are swept in the north, in the south, and where the rows of both meet. */
    private static void sweptInTheSouth() {
        promise = "40 (sweeps)";
        String room = "row wffff;";
        BitingDoors x = of(room.repeat(10) + "door da 0 0 across 3 2;door db 0 3 across 3 2;door dc 0 7 across 3 2;");
        saidIs(x, "sweeps=6", 7);
        saidIs(x, "sweeps<6", 0);
        due("bites", x.bites(0, 2, 1, 2), 0);
        x = of("row fff;row fff;row fff;row www;row fff;row fff;row fff;door da 0 3 along 3 2;");
        saidIs(x, "sweeps=6", 1);
    }

    private static void measureIs(BitingDoors x, String name, int so) {
        for (int number = Math.max(0, so - 1); number <= Math.min(99, so + 1); number++) {
            saidIs(x, name + "<" + number, so < number ? 1 : 0);
            saidIs(x, name + "=" + number, so == number ? 1 : 0);
            saidIs(x, name + ">" + number, so > number ? 1 : 0);
        }
    }

    /** "The DOORS of which it may be said, as bits; NONE: there is no SENTENCE." */
    private static void saidOfTen() {
        promise = "40";
        BitingDoors x = new BitingDoors();
        due("no sentence", x.said(), -1);
        saidIs(x, "not open", 0);
        x = of(doorsInARow(10));
        due("no sentence", x.said(), -1);
        saidIs(x, "not open", 1023);
        saidIs(x, "open", 0);
        saidIs(x, "at", 3);
        x.stand(9, 1);
        due("as all is now", x.said(), 768);
        tell(x, "fits");
        due("a fault", x.sentence(), -1);
        due("it stays", x.said(), 768);
        x = of("row www;row wfw;row www;door da 1 0 along 1 2;door db 1 2 along 1 0;door dc 0 1 across 1 2;");
        saidIs(x, "bites da", 6);
        saidIs(x, "bites db", 5);
        saidIs(x, "not bites dc", 4);
        // 'and' binds closer than 'or', 'not' closer than both
        saidIs(x, "length=1 or open and open", 7);
        saidIs(x, "(length=1 or open)and open", 0);
        saidIs(x, "not open or fit", 7);
        saidIs(x, "not (open or fit)", 0);
        saidIs(x, "not open and open", 0);
    }

    /** "HOUSE, NOW, DAY and SENTENCE are kept in place k (0, 1): true; false: no such one." */
    private static void images() {
        promise = "41, 42";
        BitingDoors x = busy();
        String before = look(x);
        for (int k : new int[] {-1, 2, 3}) {
            due("image(" + k + ")", x.image(k), false);
            due("restore(" + k + ")", x.restore(k), false);
        }
        for (int n : NEVER) {
            due("image(" + n + ")", x.image(n), false);
            due("restore(" + n + ")", x.restore(n), false);
        }
        due("nothing is kept", x.restore(0), false);
        due("nothing is kept", x.restore(1), false);
        due("what stays", look(x), before);
        due("image(1)", x.image(1), true);
        due("nothing is kept in the other place", x.restore(0), false);
        due("image() changes nothing", look(x), before);
        due("an empty house", x.house(), 0);
        due("image(0)", x.image(0), true);
        tell(x, "row f");
        due("restore(1)", x.restore(1), true);
        due("the tape stays", x.count(5), 5);
        due("minutes stay", x.minutes(), 0);
        due("all else", look(x), before.replace("now 35 2 ", "now 35 0 "));
        due("restore(0)", x.restore(0), true);
        due("no day was kept", x.count(4), 0);
        due("no sentence was kept", x.said(), -1);
        due("nowhere", x.place(), -1);
        due("restore(1) again", x.restore(1), true);
        due("angle", doorOr(x, 0, 5), 1);
        due("p to 2", x.does(4), 0);
        due("image(1) anew", x.image(1), true);
        due("p to 1", x.does(5), 0);
        due("restore(1)", x.restore(1), true);
        due("the latest that was kept", doorOr(x, 0, 5), 2);
        due("restore(0)", x.restore(0), true);
        due("the other place is as it was", x.count(2), 0);
        // what other calls told last stays
        x = busy();
        x.image(0);
        x.judge();
        x.forces(0, 1, 0);
        x.does(5);
        x.rehang(0, 1);
        due("nothing to change", x.joiner(), 0);
        due("way", x.way(6, 3), 1);
        due("restore(0)", x.restore(0), true);
        due("forced", x.forced(1), 2);
        due("joinerAt", x.joinerAt(0), -1);
        due("wayAt", x.wayAt(0), 1);
        due("judged", x.judged(0), 0);
        due("hanging", doorOr(x, 0, 4), 0);
        // a fault after it leaves what is kept
        tell(x, "row");
        due("house", x.house(), -4);
        due("restore(0)", x.restore(0), true);
        due("fault() stays", x.fault(), 1);
    }

    /** "0 columns, 1 rows, 2 DOORS, 3 draughts, 4 ACTS, 5 bytes of the tape. NONE for another what." */
    private static void counts() {
        promise = "43";
        BitingDoors x = of("row wwww;row ffff;door da 0 0 along 1 2;door db 1 0 along 1 2;door dc 2 0 along 1 2;draught da db dc;");
        dayOf(x, "wait 1;wait 1;wait 1;wait 1;wait 1;");
        tell(x, "row ww");
        int[] counts = {4, 2, 3, 1, 5, 6};
        for (int what = 0; what < 6; what++) {
            due("count(" + what + ")", x.count(what), counts[what]);
        }
        due("count(6)", x.count(6), -1);
        due("count(-1)", x.count(-1), -1);
        for (int n : NEVER) {
            due("count(" + n + ")", x.count(n), -1);
        }
        x = of("row f;");
        due("one column", x.count(0), 1);
        due("one row", x.count(1), 1);
        x = of(FIELD);
        due("ten columns", x.count(0), 10);
        due("ten rows", x.count(1), 10);
    }

    /** "An object is used for at most 512 calls": the last of them is answered as the first. */
    private static void lastCall() {
        promise = "512 calls";
        BitingDoors x = new BitingDoors();
        for (int i = 0; i < 511; i++) {
            due("call " + i, x.does(-1), 0);
        }
        due("the last call", x.minutes(), 511);
    }
}
