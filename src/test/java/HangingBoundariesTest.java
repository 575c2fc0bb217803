/** Each sentence of the document that names a boundary of cells, doors, leaves and hangings: promises 6 to 24. */
public final class HangingBoundariesTest extends Kit {
    private static final String WALLS = "row wwwwwwwwww;";
    private static final String SQUARE = WALLS.repeat(10);

    /**
     * Ten doors in a chain and ten cells of floor, each between two doors but the first and the last: da can have only the first cell,
     * and with it each door must have the next one. None is hung so now.
     */
    private static final String CHAIN_ROWS = "row wfwfwfwfwf;" + WALLS + "row wwwwwwwwwf;" + WALLS + "row wwwwwwwwwf;" + WALLS
        + "row wwwwwwwwwf;" + WALLS + "row wwwwwwwfwf;" + WALLS;
    private static final String NINE_OF_CHAIN = "door da 0 0 across 1 0 may 2 costs 99;door db 2 0 across 1 0 may 2 costs 99;"
        + "door dc 4 0 across 1 0 may 2 costs 99;door dd 6 0 across 1 0 may 2 costs 99;door de 8 0 across 1 0 may 2 costs 99;"
        + "door df 9 1 along 1 0 may 2 costs 99;door dg 9 3 along 1 0 may 2 costs 99;door dh 9 5 along 1 0 may 2 costs 99;"
        + "door di 9 7 along 1 0 may 2 costs 99;";
    private static final String CHAIN = CHAIN_ROWS + NINE_OF_CHAIN + "door dj 8 8 across 1 2 may 0 costs 99;";

    /** The cells of a leaf of three cells by steps u, v from its hinge. */
    private static final int[][] HALF_OPEN = {{0, 1}, {1, 1}, {1, 2}, {2, 2}};
    private static final int[][] WIDE_OPEN = {{0, 1}, {0, 2}, {0, 3}};

    public static void main(String[] args) {
        cells();
        doorTold();
        doorThrows();
        leavesAtTheRims();
        leavesOfEachLength();
        leafArguments();
        roomForALeaf();
        eachCellOfALeaf();
        fitness();
        canAndFitArguments();
        biting();
        clashing();
        changesOfAll();
        changesOfNone();
        hungArguments();
        waysToHang();
        forcesAll();
        forcesToEach();
        forcesArguments();
        forcesThatAreRefused();
        stuckOnes();
        joinerOfAll();
        joinerThatIsNone();
        joinerAboveAtFirst();
        rehanging();
        askedFirst();
        finish("HangingBoundariesTest");
    }

    /** "Of a CELL: 0 FLOOR, 1 WALL, 2 THING, 10 and the DOOR of which it is the DOORWAY; NONE: no such one." */
    private static void cells() {
        promise = "6";
        BitingDoors x = of("row t;");
        due("the only cell", x.cell(0, 0), 2);
        due("beyond it", x.cell(1, 0), -1);
        due("beyond it", x.cell(0, 1), -1);
        x = of("row wwf;row ftw;");
        due("the last column", x.cell(2, 1), 1);
        due("beyond the last column", x.cell(3, 0), -1);
        due("beyond the last row", x.cell(0, 2), -1);
        due("neither wraps around", x.cell(-1, 1), -1);
        due("a column for a row", x.cell(1, 2), -1);
        x = of(SQUARE + "door da 7 9 along 3 0;door db 0 7 across 3 0;");
        due("the first cell", x.cell(0, 0), 1);
        due("the last cell", x.cell(9, 9), 10);
        due("the first of the doorway", x.cell(7, 9), 10);
        due("ahead of the doorway", x.cell(6, 9), 1);
        due("the last of the doorway", x.cell(0, 9), 11);
        due("ahead of the doorway", x.cell(0, 6), 1);
        due("column 10 is not the next row", x.cell(10, 0), -1);
        due("row 10", x.cell(0, 10), -1);
        due("column -1 is not the row ahead", x.cell(-1, 1), -1);
        due("row -1", x.cell(0, -1), -1);
        for (int n : NEVER) {
            due("cell(" + n + ", 0)", x.cell(n, 0), -1);
            due("cell(0, " + n + ")", x.cell(0, n), -1);
            due("cell(" + n + ", " + n + ")", x.cell(n, n), -1);
        }
        due("of an empty house", new BitingDoors().cell(0, 0), -1);
    }

    /** "0 X, 1 Y, 2 across (1, 0), 3 LENGTH, 4 the HANGING of now, 5 ANGLE of now, 6 HANGINGS ... (bits), 7 costs, 8 whole (1, 0)." */
    private static void doorTold() {
        promise = "7";
        BitingDoors x = of(SQUARE + "door da 0 0 along 1 0;door db 9 7 across 3 3 may 0 may 1 may 2 costs 99 whole;");
        int[][] told = {{0, 0, 0, 1, 0, 0, 1, 1, 0}, {9, 7, 1, 3, 3, 0, 15, 99, 1}};
        for (int d = 0; d < 2; d++) {
            for (int what = 0; what <= 8; what++) {
                due("door(" + d + ", " + what + ")", doorOr(x, d, what), told[d][what]);
            }
        }
    }

    /** "NoSuchElementException: no such ones." "A call that throws changes nothing." */
    private static void doorThrows() {
        promise = "7 (throws)";
        BitingDoors x = busy();
        tell(x, "row");
        String before = look(x);
        int fault = x.fault();
        due("the last what", doorOr(x, 2, 8), 0);
        due("the first beyond", doorOr(x, 2, 9), THROWN);
        due("the first below", doorOr(x, 2, -1), THROWN);
        due("the first door beyond", doorOr(x, 3, 0), THROWN);
        due("the first door below", doorOr(x, -1, 0), THROWN);
        for (int n : NEVER) {
            due("door(" + n + ", 0)", doorOr(x, n, 0), THROWN);
            due("door(0, " + n + ")", doorOr(x, 0, n), THROWN);
        }
        due("nothing is changed", look(x), before);
        due("the tape", x.count(5), 3);
        due("fault", x.fault(), fault);
        due("of an empty house", doorOr(new BitingDoors(), 0, 0), THROWN);
    }

    private static void leafIs(BitingDoors x, int d, int h, int angle, int... cells) {
        for (int k = 0; k < cells.length; k++) {
            due("leaf(" + d + ", " + h + ", " + angle + ", " + k + ")", x.leaf(d, h, angle, k), cells[k]);
        }
        due("leaf(" + d + ", " + h + ", " + angle + ") behind the last", x.leaf(d, h, angle, cells.length), -1);
    }

    /** "(rising by 10 Y and X, of those with X and Y 0 to 9, be they in the HOUSE or not)". */
    private static void leavesAtTheRims() {
        promise = "8 (rims)";
        BitingDoors x = of(SQUARE + "door da 0 0 across 3 0;door db 7 9 along 3 0;door dc 1 3 across 3 0;door dd 8 3 across 3 0;"
            + "door de 3 1 along 3 0;door dg 3 8 along 3 0;");
        leafIs(x, 0, 0, 0, 0, 10, 20);
        leafIs(x, 0, 0, 1);
        leafIs(x, 0, 1, 2);
        leafIs(x, 0, 2, 1, 1, 11, 12, 22);
        leafIs(x, 0, 2, 2, 1, 2, 3);
        leafIs(x, 0, 3, 1, 2, 11, 12, 21);
        leafIs(x, 0, 3, 2, 21, 22, 23);
        leafIs(x, 1, 3, 0, 97, 98, 99);
        leafIs(x, 1, 0, 1, 78, 79, 87, 88);
        leafIs(x, 1, 0, 2, 67, 77, 87);
        leafIs(x, 1, 1, 1, 77, 78, 88, 89);
        leafIs(x, 1, 1, 2, 69, 79, 89);
        leafIs(x, 1, 2, 1);
        leafIs(x, 1, 3, 2);
        // of a leaf that is beyond in part, the rest
        leafIs(x, 2, 0, 1, 30, 40);
        leafIs(x, 2, 0, 2, 30);
        leafIs(x, 2, 1, 1, 40, 50);
        leafIs(x, 2, 1, 2, 50);
        leafIs(x, 3, 2, 1, 39, 49);
        leafIs(x, 3, 3, 2, 59);
        leafIs(x, 4, 0, 1, 3, 4);
        leafIs(x, 4, 1, 2, 5);
        leafIs(x, 5, 2, 1, 93, 94);
        leafIs(x, 5, 3, 1, 94, 95);
        leafIs(x, 5, 2, 2, 93);
        x = of("row w;door da 0 0 along 1 0;");
        leafIs(x, 0, 0, 1);
        leafIs(x, 0, 2, 1, 10);
        leafIs(x, 0, 3, 2, 10);
        x = of("row www;row www;row www;door da 2 0 across 3 0;");
        leafIs(x, 0, 2, 1, 3, 13, 14, 24);
        leafIs(x, 0, 3, 2, 23, 24, 25);
    }

    /** "i from 0 to LENGTH less 1, j from 1 to LENGTH less 1 (1 at least), where j is i or i and 1; at ANGLE 2: ... j from 1 to LENGTH". */
    private static void leavesOfEachLength() {
        promise = "8 (lengths)";
        BitingDoors x = of(SQUARE + "door da 4 4 along 1 0;door db 4 5 along 2 0;door dc 4 6 along 3 0;"
            + "door dd 2 2 across 1 0;door de 5 1 across 2 0;door dg 6 1 across 3 0;");
        for (int h = 0; h < 4; h++) {
            leafIs(x, 0, h, 0, 44);
            leafIs(x, 0, h, 1, h < 2 ? 34 : 54);
            leafIs(x, 0, h, 2, h < 2 ? 34 : 54);
            leafIs(x, 1, h, 0, 54, 55);
            leafIs(x, 1, h, 1, h < 2 ? 44 : 64, h < 2 ? 45 : 65);
            leafIs(x, 2, h, 0, 64, 65, 66);
            leafIs(x, 3, h, 1, h < 2 ? 21 : 23);
            leafIs(x, 3, h, 2, h < 2 ? 21 : 23);
            leafIs(x, 4, h, 1, h < 2 ? 14 : 16, h < 2 ? 24 : 26);
            leafIs(x, 5, h, 0, 16, 26, 36);
        }
        leafIs(x, 1, 0, 2, 34, 44);
        leafIs(x, 1, 1, 2, 35, 45);
        leafIs(x, 1, 2, 2, 64, 74);
        leafIs(x, 1, 3, 2, 65, 75);
        leafIs(x, 2, 0, 1, 45, 46, 54, 55);
        leafIs(x, 2, 1, 1, 44, 45, 55, 56);
        leafIs(x, 2, 2, 1, 74, 75, 85, 86);
        leafIs(x, 2, 3, 1, 75, 76, 84, 85);
        leafIs(x, 2, 0, 2, 34, 44, 54);
        leafIs(x, 2, 3, 2, 76, 86, 96);
        leafIs(x, 4, 0, 2, 13, 14);
        leafIs(x, 4, 1, 2, 23, 24);
        leafIs(x, 4, 2, 2, 16, 17);
        leafIs(x, 4, 3, 2, 26, 27);
        leafIs(x, 5, 0, 1, 15, 24, 25, 34);
        leafIs(x, 5, 1, 1, 14, 24, 25, 35);
        leafIs(x, 5, 2, 1, 17, 27, 28, 38);
        leafIs(x, 5, 3, 1, 18, 27, 28, 37);
        leafIs(x, 5, 0, 2, 13, 14, 15);
        leafIs(x, 5, 3, 2, 37, 38, 39);
    }

    /** "NONE: there is none such." */
    private static void leafArguments() {
        promise = "8 (arguments)";
        BitingDoors x = of(SQUARE + "door da 4 4 along 3 0;");
        due("the first", x.leaf(0, 3, 2, 0), 56);
        due("the last", x.leaf(0, 3, 2, 2), 76);
        int[][] none = {{1, 0, 0, 0}, {-1, 0, 0, 0}, {0, 4, 0, 0}, {0, -1, 0, 0}, {0, 0, 3, 0}, {0, 0, -1, 0}, {0, 0, 0, 3}, {0, 0, 0, -1},
            {0, 0, 1, 4}, {0, 0, 2, 3}};
        for (int[] a : none) {
            due("leaf(" + a[0] + ", " + a[1] + ", " + a[2] + ", " + a[3] + ")", x.leaf(a[0], a[1], a[2], a[3]), -1);
        }
        for (int n : NEVER) {
            due("leaf(" + n + ", 0, 0, 0)", x.leaf(n, 0, 0, 0), -1);
            due("leaf(0, " + n + ", 0, 0)", x.leaf(0, n, 0, 0), -1);
            due("leaf(0, 0, " + n + ", 0)", x.leaf(0, 0, n, 0), -1);
            due("leaf(0, 0, 0, " + n + ")", x.leaf(0, 0, 0, n), -1);
        }
    }

    /** "A DOOR CAN be at ANGLE 1 or 2, if all these CELLS are FLOOR": as many rows of floor as are needed, and one fewer. */
    private static void roomForALeaf() {
        promise = "9 (room)";
        int[][] bits = {{1, 7, 7, 7}, {1, 3, 7, 7}, {1, 1, 3, 7}};
        for (int length = 1; length <= 3; length++) {
            for (int deep = 0; deep <= 3; deep++) {
                String north = "row fff;".repeat(deep) + "row www;door da 0 " + deep + " along " + length + " 0;";
                String south = "row www;" + "row fff;".repeat(deep) + "door da 0 0 along " + length + " 0;";
                String walled = "row www;" + "row fff;".repeat(deep) + "row www;door da 0 " + (deep + 1) + " along " + length + " 0;";
                for (int side = 0; side < 2; side++) {
                    due(north + " can(0, " + side + ")", of(north).can(0, side), bits[length - 1][deep]);
                    due(north + " can(0, 2)", of(north).can(0, 2 + side), 1);
                    due(south + " can", of(south).can(0, 2 + side), bits[length - 1][deep]);
                    due(south + " can", of(south).can(0, side), 1);
                    due(walled + " can", of(walled).can(0, side), bits[length - 1][deep]);
                }
                String row = "row " + "f".repeat(deep) + "w;";
                String west = row.repeat(3) + "door da " + deep + " 0 across " + length + " 0;";
                String east = ("row w" + "f".repeat(deep) + ";").repeat(3) + "door da 0 0 across " + length + " 0;";
                for (int end = 0; end < 2; end++) {
                    due(west + " can", of(west).can(0, end), bits[length - 1][deep]);
                    due(east + " can", of(east).can(0, 2 + end), bits[length - 1][deep]);
                    due(east + " can", of(east).can(0, end), 1);
                }
            }
        }
        // rows that are told behind the door count
        due("can", of("row w;door da 0 0 along 1 2;row f;").can(0, 2), 7);
        // at the rims of the largest house
        BitingDoors x = of("row wffffffffw;".repeat(9) + WALLS + "door da 0 0 across 3 2;door db 9 6 across 3 0;");
        due("from the first cell on", x.can(0, 2), 7);
        due("by its other end", x.can(0, 3), 7);
        due("to the last cell but one", x.can(1, 0), 7);
        x = of("row ffffffffff;".repeat(3) + WALLS + "row ffffffffff;".repeat(3) + "door da 7 3 along 3 1;door db 0 3 along 3 2;");
        for (int h = 0; h < 4; h++) {
            due("to the east rim", x.can(0, h), 7);
            due("to the west rim", x.can(1, h), 7);
        }
    }

    /** Each cell of a leaf of three matters for the angles at which the leaf is on it, and no other cell does. */
    private static void eachCellOfALeaf() {
        promise = "9 (each cell)";
        for (int h = 0; h < 4; h++) {
            for (int i = 0; i < 3; i++) {
                for (int j = 1; j < 4; j++) {
                    int bits = 1 + (isAmong(HALF_OPEN, i, j) ? 0 : 2) + (isAmong(WIDE_OPEN, i, j) ? 0 : 4);
                    for (char what : new char[] {'t', 'w'}) {
                        char[][] grid = {"fff".toCharArray(), "fff".toCharArray(), "fff".toCharArray(), "www".toCharArray(),
                            "fff".toCharArray(), "fff".toCharArray(), "fff".toCharArray()};
                        grid[h < 2 ? 3 - j : 3 + j][h % 2 == 0 ? i : 2 - i] = what;
                        due("along, by " + h + ", at " + i + " " + j, of(along(grid)).can(0, h), bits);
                        due("across, by " + h + ", at " + i + " " + j, of(across(grid)).can(0, h), bits);
                    }
                }
            }
        }
        // a doorway is no floor
        due("can", of("row w;row f;row w;door da 0 0 along 1 2;door db 0 2 along 1 0;").can(0, 2), 7);
        due("can", of("row w;row w;row w;door da 0 0 along 1 2;door db 0 1 along 1 0;").can(0, 2), 1);
    }

    private static boolean isAmong(int[][] cells, int i, int j) {
        for (int[] cell : cells) {
            if (cell[0] == i && cell[1] == j) {
                return true;
            }
        }
        return false;
    }

    private static String along(char[][] grid) {
        StringBuilder text = new StringBuilder();
        for (char[] row : grid) {
            text.append("row ").append(row).append(';');
        }
        return text + "door da 0 3 along 3 0;";
    }

    private static String across(char[][] grid) {
        StringBuilder text = new StringBuilder();
        for (int y = 0; y < 3; y++) {
            text.append("row ");
            for (int x = 0; x < 7; x++) {
                text.append(grid[x][y]);
            }
            text.append(';');
        }
        return text + "door da 3 0 across 3 0;";
    }

    /** "A HANGING is FIT, if it CAN be at ANGLE 1, and, if the DOOR is 'whole', at ANGLE 2." */
    private static void fitness() {
        promise = "10";
        String[] rows = {"row ww;row tf;row ff;", "row ww;row ff;row tf;", "row ww;row ft;row ff;", "row ww;row ff;row ff;"};
        int[] bits = {1, 3, 5, 7};
        int[] fit = {0, 1, 0, 1};
        int[] fitWhole = {0, 0, 0, 1};
        for (int i = 0; i < 4; i++) {
            BitingDoors x = of(rows[i] + "door da 0 0 along 2 2;");
            due(rows[i] + " can", x.can(0, 2), bits[i]);
            due(rows[i] + " fit", x.fit(0, 2), fit[i]);
            x = of(rows[i] + "door da 0 0 along 2 2 whole;");
            due(rows[i] + " can of a whole one", x.can(0, 2), bits[i]);
            due(rows[i] + " fit of a whole one", x.fit(0, 2), fitWhole[i]);
        }
        // one that it was not told with may be fit too
        due("fit", of(rows[3] + "door da 0 0 along 2 0;").fit(0, 3), 1);
    }

    private static void canAndFitArguments() {
        promise = "9, 10 (arguments)";
        BitingDoors x = of(MANSION);
        int[][] none = {{3, 0}, {-1, 0}, {0, 4}, {0, -1}, {3, 4}};
        for (int[] a : none) {
            due("can(" + a[0] + ", " + a[1] + ")", x.can(a[0], a[1]), -1);
            due("fit(" + a[0] + ", " + a[1] + ")", x.fit(a[0], a[1]), -1);
        }
        due("the last", x.can(2, 3), 7);
        due("the last", x.fit(2, 3), 1);
        for (int n : NEVER) {
            due("can(" + n + ", 0)", x.can(n, 0), -1);
            due("can(0, " + n + ")", x.can(0, n), -1);
            due("fit(" + n + ", 0)", x.fit(n, 0), -1);
            due("fit(0, " + n + ")", x.fit(0, n), -1);
        }
    }

    /** "How many CELLS HANGING h of DOOR d and HANGING g of DOOR e both have SWEPT; NONE: no such ones, or one DOOR." */
    private static void biting() {
        promise = "11";
        BitingDoors x = of(MANSION);
        int[][] none = {{0, 0, 0, 0}, {0, 0, 0, 1}, {2, 3, 2, 0}, {3, 0, 0, 0}, {0, 0, 3, 0}, {-1, 0, 0, 0}, {0, 0, -1, 0}, {0, 4, 1, 0},
            {0, -1, 1, 0}, {0, 0, 1, 4}, {0, 0, 1, -1}, {3, 0, 3, 0}};
        for (int[] a : none) {
            due("bites(" + a[0] + ", " + a[1] + ", " + a[2] + ", " + a[3] + ")", x.bites(a[0], a[1], a[2], a[3]), -1);
        }
        for (int n : NEVER) {
            due("bites(" + n + ", 0, 1, 0)", x.bites(n, 0, 1, 0), -1);
            due("bites(0, " + n + ", 1, 0)", x.bites(0, n, 1, 0), -1);
            due("bites(0, 0, " + n + ", 0)", x.bites(0, 0, n, 0), -1);
            due("bites(0, 0, 1, " + n + ")", x.bites(0, 0, 1, n), -1);
            due("bites(" + n + ", 0, " + n + ", 1)", x.bites(n, 0, n, 1), -1);
        }
        // by hangings that they were not told with too: q by 3 sweeps 11 21 22, p by 0 sweeps 12 22 23 24 32 33
        due("bites", x.bites(0, 0, 1, 3), 1);
        // two of three cells face one another: each sweeps six cells of the room between them
        x = of("row www;row fff;row fff;row fff;row www;door da 0 0 along 3 2;door db 0 4 along 3 0;");
        // da by 2: 10 11 21 22 20 30; db by 0: 30 31 21 22 20 10
        due("bites", x.bites(0, 2, 1, 0), 5);
        // da by 3: 12 11 21 20 22 32
        due("bites", x.bites(0, 3, 1, 0), 3);
        due("bites", x.bites(0, 0, 1, 0), 0);
        // at the rims: the last and the first row of each half of the house
        x = of("row ffffffffff;row wwwwwwwwww;row wwwwwwwwww;row wwwwwwwwww;row ffffffffff;row wwwwwwwwww;row wwwwwwwwww;row wwwwwwwwww;"
            + "row wwwwwwwwwf;row wwwwwwwwww;door da 9 3 along 1 2;door db 9 5 along 1 0;door dc 9 7 along 1 2;door dd 9 9 along 1 0;"
            + "door de 0 1 along 1 0;door dg 0 5 along 1 0;");
        due("in row 4", x.bites(0, 2, 1, 0), 1);
        due("in row 8", x.bites(2, 2, 3, 0), 1);
        due("of unlike rows", x.bites(0, 2, 3, 0), 0);
        due("of unlike rows", x.bites(4, 0, 5, 0), 0);
    }

    /** "Pairs of DOORS that BITE by the HANGINGS of now." */
    private static void clashing() {
        promise = "12";
        due("no doors", new BitingDoors().clashes(), 0);
        due("one door", of("row w;row f;door da 0 0 along 1 2;").clashes(), 0);
        BitingDoors x = of("row www;row wfw;row www;door da 1 0 along 1 2;door db 1 2 along 1 0;door dc 0 1 across 1 2;door dd 2 1 across 1 0;");
        due("four about one cell", x.clashes(), 6);
        due("ways", x.ways(), 0);
        x = of("row www;row wfw;row www;door da 1 0 along 1 2 may 0;door db 1 2 along 1 0 may 2;");
        due("clashes", x.clashes(), 1);
        due("the other one is not fit", x.rehang(0, 0), false);
        due("clashes", x.clashes(), 1);
        due("ten that don't bite", of(CHAIN).clashes(), 0);
    }

    /** CHEAPEST and FEWEST where all ten must be changed, each at the most that it may cost. */
    private static void changesOfAll() {
        promise = "13, 14, 15, 16 (all)";
        BitingDoors x = of(CHAIN);
        due("cheapest", x.cheapest(), 990);
        due("fewest", x.fewest(), 10);
        for (int d = 0; d < 10; d++) {
            due("hung(" + d + ")", x.hung(d), d == 9 ? 0 : 2);
            due("fewestBy(" + d + ")", x.fewestBy(d), d == 9 ? 0 : 2);
        }
        due("now stays", doorOr(x, 0, 4), 0);
        // one that is rehung is one fewer; it is asked anew by the hangings of now
        due("rehang", x.rehang(9, 0), true);
        due("cheapest", x.cheapest(), 891);
        due("fewest", x.fewest(), 9);
        due("hung(9)", x.hung(9), 0);
    }

    /** Nothing to change costs 0; NONE where they can't be hung well, of one door as of ten. */
    private static void changesOfNone() {
        promise = "13, 14, 15, 16 (none)";
        BitingDoors x = new BitingDoors();
        due("cheapest of no doors", x.cheapest(), 0);
        due("fewest of no doors", x.fewest(), 0);
        x = of("row w;row f;door da 0 0 along 1 2 costs 99;");
        due("cheapest", x.cheapest(), 0);
        due("fewest", x.fewest(), 0);
        due("hung(0)", x.hung(0), 2);
        due("fewestBy(0)", x.fewestBy(0), 2);
        for (String house : new String[] {"row w;row t;door da 0 0 along 1 2;", "row w;row f;door da 0 0 along 1 0;",
            CHAIN.replace("dj 8 8 across 1 2 may 0", "dj 8 8 across 1 2")}) {
            x = of(house);
            due("cheapest", x.cheapest(), -1);
            due("fewest", x.fewest(), -1);
            due("hung(0)", x.hung(0), -1);
            due("fewestBy(0)", x.fewestBy(0), -1);
        }
    }

    private static void hungArguments() {
        promise = "14, 16 (arguments)";
        BitingDoors x = of(MANSION);
        due("the last door", x.hung(2), 3);
        due("the last door", x.fewestBy(2), 3);
        due("beyond", x.hung(3), -1);
        due("beyond", x.fewestBy(3), -1);
        due("below", x.hung(-1), -1);
        due("below", x.fewestBy(-1), -1);
        for (int n : NEVER) {
            due("hung(" + n + ")", x.hung(n), -1);
            due("fewestBy(" + n + ")", x.fewestBy(n), -1);
        }
        due("beyond ten", of(CHAIN).hung(10), -1);
        due("beyond ten", of(CHAIN).fewestBy(10), -1);
        due("of no doors", new BitingDoors().hung(0), -1);
        due("of no doors", new BitingDoors().fewestBy(0), -1);
    }

    private static String tenDoors(String hangings) {
        StringBuilder ten = new StringBuilder("row ffffffffff;" + WALLS + "row ffffffffff;");
        for (int d = 0; d < 10; d++) {
            ten.append("door d").append((char) ('a' + d)).append(' ').append(d).append(" 1 along 1 ").append(hangings).append(';');
        }
        return ten.toString();
    }

    /** "How many ways there are for all DOORS to be HUNG well." */
    private static void waysToHang() {
        promise = "17";
        due("no doors", new BitingDoors().ways(), 1);
        due("one way", of("row w;row f;door da 0 0 along 1 2;").ways(), 1);
        due("no way", of("row w;row t;door da 0 0 along 1 2;").ways(), 0);
        due("by all four", of(tenDoors("0 may 1 may 2 may 3")).ways(), 1048576);
        due("by two", of(tenDoors("0 may 3")).ways(), 1024);
        due("by one", of(tenDoors("1")).ways(), 1);
        due("in a chain", of(CHAIN).ways(), 1);
        due("a hanging that is not fit is no way", of("row f;row w;row t;door da 0 1 along 1 0 may 1 may 2 may 3;").ways(), 2);
    }

    /** FORCED one after the other, to the last of ten. */
    private static void forcesAll() {
        promise = "18, 19, 20 (all)";
        BitingDoors x = of(CHAIN);
        due("how many", x.forces(0, 2, 0), 9);
        due("as bits", x.forces(0, 2, 1), 1022);
        due("none is dead", x.forces(0, 2, 2), -1);
        due("forced(0)", x.forced(0), -1);
        for (int i = 0; i < 9; i++) {
            due("forcedAt(" + i + ")", x.forcedAt(i), i + 1);
            due("forced(" + (i + 1) + ")", x.forced(i + 1), i == 8 ? 0 : 2);
        }
        due("forcedAt(9)", x.forcedAt(9), -1);
        // dj by 2 leaves di its other cell, but da has the lesser number: from it on each has the next cell, till di has none
        due("dead", x.forces(9, 2, 2), 8);
        due("how many ahead of it", x.forces(9, 2, 0), 8);
        due("as bits", x.forces(9, 2, 1), 255);
        due("forcedAt(0)", x.forcedAt(0), 0);
        due("forcedAt(7)", x.forcedAt(7), 7);
        due("forcedAt(8)", x.forcedAt(8), -1);
        due("the dead one is not forced", x.forced(8), -1);
    }

    /** A door is forced to each of the four hangings, the last one too. */
    private static void forcesToEach() {
        promise = "18, 19 (each hanging)";
        for (int h = 0; h < 4; h++) {
            BitingDoors x = of("row fff;row wfw;row fff;door da 0 1 along 1 0;door db 2 1 along 1 " + h + ";");
            due("forces", x.forces(0, 0, 1), 2);
            due("forced to " + h, x.forced(1), h);
            // two are left, and the one that bites goes: da sweeps the cell that db would by its other hanging
            int other = h < 2 ? 2 : 1;
            String rows = h < 2 ? "row f;row w;row f;row w;" : "row w;row f;row w;row f;";
            String doors = h < 2 ? "door da 0 3 along 1 0;door db 0 1 along 1 " : "door da 0 0 along 1 2;door db 0 2 along 1 ";
            x = of(rows + doors + other + " may " + h + ";");
            due("forces", x.forces(0, h < 2 ? 0 : 2, 0), 1);
            due("forced to " + h, x.forced(1), h);
        }
    }

    private static void forcesArguments() {
        promise = "18, 19, 20 (arguments)";
        BitingDoors x = of(MANSION);
        due("forced ahead of any", x.forced(0), -1);
        due("forcedAt ahead of any", x.forcedAt(0), -1);
        due("the last what", x.forces(0, 1, 2), -1);
        due("the first beyond", x.forces(0, 1, 3), -2);
        due("the first below", x.forces(0, 1, -1), -2);
        due("as it was", x.forced(1), 2);
        int[] beyond = {-1, 3, 9, 10, 11, 31, 32, 33};
        for (int n : beyond) {
            due("forced(" + n + ")", x.forced(n), -1);
        }
        due("forcedAt(1)", x.forcedAt(1), -1);
        due("forcedAt(-1)", x.forcedAt(-1), -1);
        for (int n : NEVER) {
            due("forces(" + n + ", 1, 0)", x.forces(n, 1, 0), -2);
            due("forces(0, " + n + ", 0)", x.forces(0, n, 0), -2);
            due("forces(0, 1, " + n + ")", x.forces(0, 1, n), -2);
            due("forced(" + n + ")", x.forced(n), -1);
            due("forcedAt(" + n + ")", x.forcedAt(n), -1);
        }
        due("forces of no doors", new BitingDoors().forces(0, 0, 0), -2);
        due("of one door alone", of("row w;row f;door da 0 0 along 1 2;").forces(0, 2, 0), 0);
        due("of one door alone", of("row w;row f;door da 0 0 along 1 2;").forces(0, 2, 2), -1);
    }

    /** "-2: no such ones, not one it was told with, or not FIT", and "the latest forces() that was not -2" stays. */
    private static void forcesThatAreRefused() {
        promise = "18, 19, 20 (refused)";
        BitingDoors x = busy();
        String before = look(x);
        int[][] refused = {{3, 0, 0}, {-1, 0, 0}, {0, 4, 0}, {0, -1, 0}, {1, 3, 0}, {0, 3, 0}, {0, 2, 0}, {0, 1, 3}, {0, 1, -1}};
        for (int[] a : refused) {
            due("forces(" + a[0] + ", " + a[1] + ", " + a[2] + ")", x.forces(a[0], a[1], a[2]), -2);
            due("the latest one stays", look(x), before);
        }
        // one that is NONE, for none is dead, is not refused
        due("forces", x.forces(0, 1, 2), -1);
        due("forced(0)", x.forced(0), -1);
        due("forced(1)", x.forced(1), 2);
        // a new house leaves it, with the doors of that house
        tell(x, CHAIN);
        x.house();
        x.forces(0, 2, 0);
        tell(x, "");
        x.house();
        due("of that house", x.forced(9), 0);
        due("of that house", x.forcedAt(8), 9);
        due("no such one of that house", x.forced(10), -1);
    }

    /** "STUCK: the fewest DOORS (then the least set as bits) that can't be HUNG well among themselves." "0: all can be HUNG well." */
    private static void stuckOnes() {
        promise = "21";
        due("no doors", new BitingDoors().stuck(), 0);
        due("all can", of(CHAIN).stuck(), 0);
        due("all ten, and no fewer", of(CHAIN.replace("dj 8 8 across 1 2 may 0", "dj 8 8 across 1 2")).stuck(), 1023);
        due("the last alone", of(CHAIN.replace("dj 8 8 across 1 2 may 0", "dj 0 9 along 1 0")).stuck(), 512);
        due("the first alone", of(CHAIN.replace("da 0 0 across 1 0 may 2", "da 0 0 across 1 0")).stuck(), 1);
        due("the only one", of("row w;door da 0 0 along 1 0;").stuck(), 1);
        due("one ahead of the other", of("row w;row w;door da 0 0 along 1 0;door db 0 1 along 1 0;").stuck(), 1);
        // two pairs: 0 with 3 is bits 9, 1 with 2 is bits 6
        String pairs = "row www;row wfw;row www;row wfw;row www;door da 1 0 along 1 2;door db 1 2 along 1 2;door dc 1 4 along 1 0;"
            + "door dd 0 1 across 1 2;";
        due("the least set as bits", of(pairs).stuck(), 6);
        // a pair of low numbers and one alone of a high one: the fewest
        due("the fewest", of(pairs + "door de 2 2 across 1 2;").stuck(), 16);
    }

    /** JOINER with ten changes: each must be made ahead of that of the door before it. */
    private static void joinerOfAll() {
        promise = "22, 23 (all)";
        BitingDoors x = of(CHAIN);
        due("joiner", x.joiner(), 0);
        for (int i = 0; i < 10; i++) {
            due("joinerAt(" + i + ")", x.joinerAt(i), 9 - i);
        }
        due("joinerAt(10)", x.joinerAt(10), -1);
        due("joinerAt(-1)", x.joinerAt(-1), -1);
        for (int n : NEVER) {
            due("joinerAt(" + n + ")", x.joinerAt(n), -1);
        }
        due("now stays", doorOr(x, 9, 4), 2);
        // nothing bites whatever the order: lesser numbers first
        x = of(tenDoors("2 may 1").replace("row ffffffffff;" + WALLS + "row ffffffffff;", "row ffffffffff;" + WALLS + "row tttttttttt;"));
        due("joiner", x.joiner(), 0);
        for (int i = 0; i < 10; i++) {
            due("joinerAt(" + i + ")", x.joinerAt(i), i);
        }
    }

    /** "NONE: they can't be HUNG well", "the latest joiner() that was not NONE". */
    private static void joinerThatIsNone() {
        promise = "22, 23 (none)";
        BitingDoors x = new BitingDoors();
        due("joinerAt ahead of any", x.joinerAt(0), -1);
        due("joiner of no doors", x.joiner(), 0);
        due("joinerAt(0)", x.joinerAt(0), -1);
        tell(x, CHAIN);
        x.house();
        due("joiner", x.joiner(), 0);
        tell(x, "row w;door da 0 0 along 1 0;");
        x.house();
        due("joiner", x.joiner(), -1);
        due("the latest stays", x.joinerAt(9), 0);
        due("hung well or not, cheapest", x.cheapest(), -1);
        due("the latest stays", x.joinerAt(0), 9);
        tell(x, "row w;row f;door da 0 0 along 1 2;");
        x.house();
        due("the latest stays in a new house", x.joinerAt(0), 9);
        due("nothing to change", x.joiner(), 0);
        due("the latest is of nothing", x.joinerAt(0), -1);
        // what bites at first counts, though the first change ends it
        x = of("row www;row wfw;row www;row fff;door da 1 0 along 1 2;door db 1 2 along 1 0 may 2;");
        due("ahead of the change", x.joiner(), 1);
        due("joinerAt(0)", x.joinerAt(0), 1);
        due("joinerAt(1)", x.joinerAt(1), -1);
    }

    /** "the greatest number of pairs that BITE ..., ahead of, between and behind the changes": between them alone. */
    private static void joinerAboveAtFirst() {
        promise = "22, 23 (between)";
        // four go round: da, which is not fit as it hangs, from 31 32 to 1 11 12, db from 12 to 14, dc from 14 to 34, dd from 34 to 32
        BitingDoors x = of("row wfwww;row wffwf;row wwwww;row wffwf;row wwwww;door da 1 2 along 2 2 may 0 whole;"
            + "door db 3 1 across 1 0 may 2;door dc 4 2 along 1 0 may 2;door dd 3 3 across 1 2 may 0;");
        due("nothing bites now", x.clashes(), 0);
        due("da is not fit", x.fit(0, 2), 0);
        due("da sweeps all the same", x.bites(0, 2, 3, 0), 1);
        due("all four are changed", x.fewest(), 4);
        due("whoever goes first bites the next", x.joiner(), 1);
        for (int i = 0; i < 4; i++) {
            due("joinerAt(" + i + ")", x.joinerAt(i), i);
        }
    }

    /** "DOOR d is rehung (one it was told with, FIT, the DOOR shut): true; false: not so." */
    private static void rehanging() {
        promise = "24";
        BitingDoors x = busy();
        String before = look(x);
        int[][] refused = {{3, 0}, {-1, 0}, {0, 1}, {0, 0}, {1, 3}, {1, 4}, {1, -1}, {2, 0}, {2, 1}, {10, 0}};
        for (int[] a : refused) {
            due("rehang(" + a[0] + ", " + a[1] + ")", x.rehang(a[0], a[1]), false);
            due("what stays", look(x), before);
        }
        for (int n : NEVER) {
            due("rehang(" + n + ", 0)", x.rehang(n, 0), false);
            due("rehang(2, " + n + ")", x.rehang(2, n), false);
        }
        due("what stays", look(x), before);
        due("p at angle 1 is not shut", doorOr(x, 0, 5), 1);
        due("p to angle 2", x.does(4), 0);
        due("p at angle 2 is not shut", x.rehang(0, 1), false);
        due("p to angle 1", x.does(5), 0);
        due("p to angle 0", x.does(5), 0);
        due("p shut", x.rehang(0, 1), true);
        due("told with, not fit", x.rehang(0, 2), false);
        due("fit, not told with", x.rehang(1, 3), false);
        due("the one it hangs by", x.rehang(0, 1), true);
        due("back", x.rehang(0, 0), true);
        due("hanging", doorOr(x, 0, 4), 0);
        // it may bite another one: that is no matter
        due("clashes", x.clashes(), 1);
        // one whose hanging of now is not fit may be rehung, and not back
        x = of("row w;row f;door da 0 0 along 1 0 may 2;");
        due("rehang", x.rehang(0, 2), true);
        due("not back", x.rehang(0, 0), false);
        due("hanging", doorOr(x, 0, 4), 2);
    }

    /** Each is of the HANGINGS of now, whatever was asked before: first of all calls, behind rehang(), house() and restore(). */
    private static void askedFirst() {
        promise = "12 to 22 (asked first)";
        int[] first = {1, 9, 1, 1, 1, 2, 0, 1};
        int[] behind = {0, 0, 1, 0, 1, 2, 0, 0};
        for (int which = 0; which < first.length; which++) {
            BitingDoors x = of(MANSION);
            due("asked first: " + which, ask(x, which), first[which]);
            due("rehang", x.rehang(0, 1), true);
            due("behind rehang(): " + which, ask(x, which), behind[which]);
            x.image(0);
            tell(x, "row w;row f;door da 0 0 along 1 2;");
            x.house();
            due("behind house(): " + which, ask(x, which), new int[] {0, 0, 2, 0, 2, 1, 0, 0}[which]);
            due("restore", x.restore(0), true);
            due("behind restore(): " + which, ask(x, which), behind[which]);
            due("rehang", x.rehang(0, 0), true);
            due("behind rehang(): " + which, ask(x, which), first[which]);
            // a house of one door: all hangings are others at once
            x = of("row w;row f;door da 0 0 along 1 0 may 2 costs 7;");
            due("one door: " + which, ask(x, which), new int[] {0, 7, 2, 1, 2, 1, 0, 0}[which]);
            due("rehang", x.rehang(0, 2), true);
            due("one door behind rehang(): " + which, ask(x, which), new int[] {0, 0, 2, 0, 2, 1, 0, 0}[which]);
        }
    }

    private static int ask(BitingDoors x, int which) {
        switch (which) {
            case 0: return x.clashes();
            case 1: return x.cheapest();
            case 2: return x.hung(0);
            case 3: return x.fewest();
            case 4: return x.fewestBy(0);
            case 5: return x.ways();
            case 6: return x.stuck();
            default: return x.joiner();
        }
    }
}
