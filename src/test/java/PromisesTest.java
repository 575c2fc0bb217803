/** Each promise of the document by answers worked out by hand: ordinary inputs, edges and wrong inputs. */
public final class PromisesTest extends Kit {
    /** A house that a fault must leave as it is. */
    private static final String TIGHT = "row wwwwww;row wffffw;row wffffw;row wwwwww;";

    public static void main(String[] args) {
        newObject();
        feedAndEnd();
        houseCounts();
        houseFaults();
        houseFaultsOfRows();
        houseLimits();
        houseStays();
        names();
        cells();
        doorTold();
        leaves();
        canAndFit();
        bitesAndClashes();
        cheapestAndFewest();
        likeOnes();
        waysAndStuck();
        forcing();
        forcingGoesOn();
        joining();
        rehanging();
        standing();
        doing();
        doingSwings();
        draughtsBlow();
        days();
        dayFaults();
        judging();
        judgingSwings();
        waysThrough();
        waysOfLikeLength();
        waysThatAreNone();
        reaching();
        quietness();
        striding();
        sentences();
        sentenceFaults();
        imaging();
        counting();
        finish("PromisesTest");
    }

    private static void newObject() {
        promise = "1";
        BitingDoors x = new BitingDoors();
        due("NONE", BitingDoors.NONE, -1);
        for (int what = 0; what < 6; what++) {
            due("count", x.count(what), 0);
        }
        due("fault", x.fault(), 0);
        due("place", x.place(), -1);
        due("minutes", x.minutes(), 0);
        due("cell", x.cell(0, 0), -1);
        due("said", x.said(), -1);
        due("judged ahead of any", x.judged(0), -2);
        due("forced ahead of any", x.forced(0), -1);
        due("forcedAt ahead of any", x.forcedAt(0), -1);
        due("joinerAt ahead of any", x.joinerAt(0), -1);
        due("wayAt ahead of any", x.wayAt(0), -1);
        due("walk ahead of any", x.walk(), 0);
        due("restore ahead of any", x.restore(0), false);
        due("cheapest", x.cheapest(), 0);
        due("ways", x.ways(), 1);
        due("judge", x.judge(), -1);
        due("judged(2)", x.judged(2), -1);
    }

    private static void feedAndEnd() {
        promise = "2, 3";
        BitingDoors x = new BitingDoors();
        for (int i = 1; i <= 47; i++) {
            due("feed", x.feed(0x20202020, 0x20202020, 0x20202020, 0x20202020, 0x20202020), 20 * i);
        }
        due("feed beyond 940", x.feed(0, 0, 0, 0, 0), -1);
        due("count(5)", x.count(5), 940);
        due("end(941)", x.end(941), false);
        due("end(-1)", x.end(-1), false);
        due("end(920)", x.end(920), true);
        due("feed", x.feed(0, 0, 0, 0, 0), 940);
        due("end(0)", x.end(0), true);
        due("end(1)", x.end(1), false);
        due("end(0) again", x.end(0), true);
        // "row wf;" with the highest byte of each number first, and a byte above 127 behind it
        due("feed", x.feed(0x726f7720, 0x77663b20, 0xe9000000, 0, 0), 20);
        due("end(8)", x.end(8), true);
        due("house", x.house(), 1);
        due("cell", x.cell(1, 0), 0);
        due("tape", x.count(5), 0);
        x.feed(0x726f7720, 0x77663b20, 0xe9000000, 0, 0);
        due("house", x.house(), -9);
        due("fault", x.fault(), 1);
    }

    private static void houseCounts() {
        promise = "4";
        BitingDoors x = new BitingDoors();
        tell(x, MANSION);
        due("house", x.house(), 12);
        due("fault", x.fault(), 0);
        due("count(5)", x.count(5), 0);
        tell(x, "");
        due("house() of nothing", x.house(), 0);
        due("count(1)", x.count(1), 0);
        tell(x, " \n ");
        due("house() of blanks", x.house(), 0);
        tell(x, "row wwf;row fff\n;door\nda 0 0 along 02 00 may 3 may 01 costs 07 whole;bed 2 0;");
        due("house() with blanks and noughts", x.house(), 4);
        due("hangings", doorOr(x, 0, 6), 11);
        due("costs", doorOr(x, 0, 7), 7);
        due("whole", doorOr(x, 0, 8), 1);
        due("place", x.place(), 2);
        tell(x, "row ww;door da 0 0 along 1 0;row ff;bed 0 1;door db 1 0 along 1 2;");
        due("house() with rows behind doors", x.house(), 5);
        due("can", x.can(0, 2), 7);
    }

    private static void faulty(String house, int place, int kind) {
        BitingDoors x = of(TIGHT);
        tell(x, house);
        due("house() of " + house, x.house(), -1 - place);
        due("fault() of " + house, x.fault(), kind);
        due("the house stays: " + house, x.count(0), 6);
        due("the tape is empty: " + house, x.count(5), 0);
    }

    private static void houseFaults() {
        promise = "4, 5";
        String two = "row www;row wfw;";
        faulty("row", 3, 1);
        faulty("row  ", 5, 1);
        faulty("row ww", 6, 1);
        faulty("row ww row", 7, 1);
        faulty("wall ww;", 0, 1);
        faulty("; row ww;", 0, 1);
        faulty("12;", 0, 1);
        faulty("rowww;", 0, 1);
        faulty("Row ww;", 0, 1);
        faulty("row ww.", 6, 1);
        faulty("row ww\t;", 6, 1);
        faulty("row w2;", 4, 1);
        faulty("row 22;", 4, 1);
        faulty(two + "door", 20, 1);
        faulty(two + "door 5 ", 21, 1);
        faulty(two + "door da db", 24, 1);
        faulty(two + "door da 100", 24, 1);
        faulty(two + "door da 3 0", 24, 2);
        faulty(two + "door da 99", 24, 2);
        faulty(two + "door da 0 2", 26, 2);
        faulty(two + "door da 0 0 up", 28, 1);
        faulty(two + "door da 0 0 along", 33, 1);
        faulty(two + "door da 0 0 along x", 34, 1);
        faulty(two + "door da 0 0 along 0", 34, 2);
        faulty(two + "door da 0 0 along 4", 34, 2);
        faulty("row wwww;door da 0 0 along 4", 27, 2);
        faulty(two + "door da 1 0 along 3", 34, 2);
        faulty(two + "door da 1 0 across 2", 35, 2);
        faulty(two + "door da 0 0 along 3;", 35, 1);
        faulty(two + "door da 0 0 along 3 4", 36, 2);
        faulty(two + "door da 0 0 along 3 3 0", 38, 1);
        faulty(two + "door da 0 0 along 3 3 may", 41, 1);
        faulty(two + "door da 0 0 along 3 3 may 3", 42, 3);
        faulty(two + "door da 0 0 along 3 3 may 4", 42, 2);
        faulty(two + "door da 0 0 along 3 0 may 1 may 2 may 3 may 0", 60, 3);
        faulty(two + "door da 0 0 along 3 3 costs 0", 44, 2);
        faulty(two + "door da 0 0 along 3 3 costs 100", 44, 1);
        faulty(two + "door da 0 0 along 3 3 costs 5 may 1", 46, 1);
        faulty(two + "door da 0 0 along 3 3 whole costs 1", 44, 1);
        faulty(two + "door da 0 0 along 3 3 whole whole", 44, 1);
        String three = two + "door da 0 0 along 1 0;door db 2 0 across 2 0;";
        faulty(three + "door da 1 0 along 1 0;", 66, 3);
        faulty(three + "door dc 1 0 along 2 0;", 79, 3);
        faulty(three + "door dc 0 0 across 1 0;", 80, 3);
        faulty(three + "draught da db dc;", 75, 3);
        faulty(three + "draught da db da;", 75, 3);
        faulty(three + "draught da da db;", 72, 3);
        faulty(three + "draught da db ;", 75, 1);
        faulty(three + "draught da db 5;", 75, 1);
        faulty(three + "draught da db row;", 75, 1);
        faulty(two + "bed 3 0;", 20, 2);
        faulty(two + "bed 0 2;", 22, 2);
        faulty(two + "bed 0 0;", 22, 2);
        faulty(two + "bed 1 ;", 22, 1);
        faulty(two + "bed 1 1;bed 1 1;", 24, 3);
        faulty("bed 0 0;", 4, 2);
        faulty("door da 0 0 along 1 0;", 8, 2);
    }

    private static void houseFaultsOfRows() {
        promise = "4, 5";
        faulty("row wwx;", 4, 2);
        faulty("row row;", 4, 2);
        faulty("row ww;row www;", 11, 2);
        faulty("row ww;row w;", 11, 2);
        faulty("row wwwwwwwwwww;", 4, 1);
        // a doorway that is not of wall and on another one: the lesser fault
        faulty("row wwf;door da 0 0 along 1 0;door db 0 0 along 3 0;", 48, 2);
    }

    private static void houseLimits() {
        promise = "4, 5";
        String ten = "row w;row w;row w;row w;row w;row w;row w;row w;row w;row w;";
        faulty(ten + "row w;", 60, 4);
        faulty(ten + "row 5", 60, 4);
        StringBuilder doors = new StringBuilder("row wwwwwwwwww;row wwwwwwwwww;");
        for (int i = 0; i < 10; i++) {
            doors.append("door d").append((char) ('a' + i)).append(' ').append(i).append(" 0 along 1 0;");
        }
        BitingDoors x = of(doors.toString());
        due("count(2)", x.count(2), 10);
        faulty(doors + "door", doors.length(), 4);
        for (int i = 0; i < 6; i++) {
            doors.append("draught da db dc;");
        }
        x = of(doors.toString());
        due("count(3)", x.count(3), 6);
        faulty(doors + "draught dx;", doors.length(), 4);
        tell(x, "row ww;" + blanks(893));
        due("house() of 900 bytes", x.house(), 1);
        faulty("row ww;" + blanks(894), 900, 1);
        faulty("row ww;" + blanks(889) + "row wf;", 900, 1);
        faulty("row ww;" + blanks(889) + "row wff;", 900, 1);
        faulty("row ww;" + blanks(888) + "row wff;", 899, 2);
        // a token that begins ahead of 900 is read whole
        faulty("row ww;" + blanks(889) + "rowwwwwwwwwww;", 896, 1);
        faulty("row wwwww;" + blanks(885) + "row wwwww;", 900, 1);
        faulty("row wwwww;" + blanks(885) + "row wwwwf5;", 899, 1);
        faulty("row wwwww;" + blanks(885) + "row wwwwx;", 899, 2);
        faulty("row ww;" + blanks(886) + "row ww" + blanks(1), 900, 1);
    }

    private static void houseStays() {
        promise = "4";
        BitingDoors x = of(MANSION);
        tell(x, "wait 3;");
        due("day", x.day(), 1);
        tell(x, "fit");
        due("sentence", x.sentence(), 1);
        x.does(-1);
        tell(x, "row x;");
        due("house", x.house(), -5);
        due("minutes stay", x.minutes(), 1);
        due("the day stays", x.count(4), 1);
        due("the sentence stays", x.said(), 7);
        due("the place stays", x.place(), 36);
        tell(x, MANSION);
        due("house", x.house(), 12);
        due("fault", x.fault(), 0);
        due("minutes of a new house", x.minutes(), 0);
        due("a new house has no day", x.count(4), 0);
        due("a new house has no sentence", x.said(), -1);
    }

    private static void names() {
        promise = "4, 5 (names)";
        for (String word : new String[] {"row", "door", "along", "across", "may", "costs", "whole", "draught", "bed", "go", "open", "shut",
            "wait", "north", "east", "south", "west", "or", "and", "not", "fit", "at", "bites", "angle", "length", "sweeps", "w", "ff",
            "twf", "wwwwwwwwww"}) {
            faulty("row www;door " + word + " 0 0 along 1 0;", 13, 1);
        }
        for (String name : new String[] {"wfx", "rows", "opens", "a", "abcdefghij", "zzzzzzzzzz"}) {
            BitingDoors x = of("row www;door " + name + " 0 0 along 1 0;");
            tell(x, "open " + name + ";");
            due("day() with " + name, x.day(), 1);
        }
        faulty("row www;door abcdefghijk 0 0 along 1 0;", 13, 1);
    }

    private static void cells() {
        promise = "6";
        BitingDoors x = of(MANSION);
        due("cell", x.cell(0, 0), 1);
        due("cell", x.cell(1, 1), 0);
        due("cell", x.cell(3, 5), 2);
        due("cell", x.cell(2, 4), 10);
        due("cell", x.cell(4, 4), 10);
        due("cell", x.cell(0, 1), 11);
        due("cell", x.cell(0, 2), 11);
        due("cell", x.cell(0, 3), 1);
        due("cell", x.cell(5, 0), 12);
        due("cell", x.cell(7, 7), 1);
        due("cell", x.cell(8, 0), -1);
        due("cell", x.cell(0, 8), -1);
        due("cell", x.cell(-1, 0), -1);
        due("cell", x.cell(0, -1), -1);
        due("cell", x.cell(Integer.MAX_VALUE, Integer.MIN_VALUE), -1);
    }

    private static void doorTold() {
        promise = "7";
        BitingDoors x = of(MANSION);
        int[][] told = {{2, 4, 0, 3, 0, 0, 7, 9, 0}, {0, 1, 1, 2, 2, 0, 4, 1, 1}, {5, 0, 0, 1, 3, 0, 12, 1, 0}};
        for (int d = 0; d < 3; d++) {
            for (int what = 0; what < 9; what++) {
                due("door(" + d + ", " + what + ")", doorOr(x, d, what), told[d][what]);
            }
        }
        due("door(3, 0)", doorOr(x, 3, 0), -77);
        due("door(-1, 0)", doorOr(x, -1, 0), -77);
        due("door(0, 9)", doorOr(x, 0, 9), -77);
        due("door(0, -1)", doorOr(x, 0, -1), -77);
    }

    private static void leafIs(BitingDoors x, int d, int h, int angle, int... cells) {
        for (int k = 0; k < cells.length; k++) {
            due("leaf(" + d + ", " + h + ", " + angle + ", " + k + ")", x.leaf(d, h, angle, k), cells[k]);
        }
        due("leaf behind the last", x.leaf(d, h, angle, cells.length), -1);
        due("leaf(-1)", x.leaf(d, h, angle, -1), -1);
    }

    private static void leaves() {
        promise = "8";
        BitingDoors x = of(MANSION);
        leafIs(x, 0, 0, 0, 42, 43, 44);
        leafIs(x, 0, 3, 0, 42, 43, 44);
        leafIs(x, 0, 0, 1, 23, 24, 32, 33);
        leafIs(x, 0, 0, 2, 12, 22, 32);
        leafIs(x, 0, 1, 1, 22, 23, 33, 34);
        leafIs(x, 0, 1, 2, 14, 24, 34);
        leafIs(x, 0, 2, 1, 52, 53, 63, 64);
        leafIs(x, 0, 3, 1, 53, 54, 62, 63);
        leafIs(x, 0, 3, 2, 54, 64, 74);
        leafIs(x, 1, 0, 0, 10, 20);
        leafIs(x, 1, 2, 1, 11, 21);
        leafIs(x, 1, 2, 2, 11, 12);
        leafIs(x, 1, 3, 1, 11, 21);
        leafIs(x, 1, 3, 2, 21, 22);
        // beyond the west nothing is told
        leafIs(x, 1, 0, 1);
        leafIs(x, 1, 1, 2);
        leafIs(x, 2, 0, 1);
        leafIs(x, 2, 2, 1, 15);
        leafIs(x, 2, 3, 2, 15);
        due("no such door", x.leaf(3, 0, 0, 0), -1);
        due("no such hanging", x.leaf(0, 4, 0, 0), -1);
        due("no such hanging", x.leaf(0, -1, 0, 0), -1);
        due("no such angle", x.leaf(0, 0, 3, 0), -1);
        due("no such angle", x.leaf(0, 0, -1, 0), -1);
        x = of("row w;row w;door da 0 0 across 2 0;");
        // beyond the house, but with x and y 0 to 9
        leafIs(x, 0, 2, 2, 1, 2);
        leafIs(x, 0, 3, 1, 1, 11);
        x = of("row f;row f;row f;row f;row w;row f;row f;row w;door da 0 4 along 1 0;door db 0 7 along 1 0;");
        leafIs(x, 0, 0, 2, 30);
        leafIs(x, 0, 0, 0, 40);
        leafIs(x, 0, 2, 1, 50);
        leafIs(x, 1, 0, 1, 60);
        due("can", x.can(0, 2), 7);
        x = of("row wwwwwwwwww;row fffffffffw;row fffffffffw;row fffffffffw;door da 9 1 across 3 0;");
        leafIs(x, 0, 0, 1, 18, 27, 28, 37);
        leafIs(x, 0, 1, 1, 17, 27, 28, 38);
        leafIs(x, 0, 1, 2, 36, 37, 38);
        leafIs(x, 0, 2, 1);
    }

    private static void canAndFit() {
        promise = "9, 10";
        BitingDoors x = of(MANSION);
        due("can(0, 0)", x.can(0, 0), 7);
        due("can(0, 1)", x.can(0, 1), 7);
        due("can(0, 2)", x.can(0, 2), 1);
        due("can(0, 3)", x.can(0, 3), 1);
        due("can(1, 2)", x.can(1, 2), 7);
        due("can(1, 0)", x.can(1, 0), 1);
        due("can(3, 0)", x.can(3, 0), -1);
        due("can(0, 4)", x.can(0, 4), -1);
        due("can(0, -1)", x.can(0, -1), -1);
        due("fit(0, 0)", x.fit(0, 0), 1);
        due("fit(0, 3)", x.fit(0, 3), 0);
        due("fit(1, 2)", x.fit(1, 2), 1);
        due("fit(1, 3)", x.fit(1, 3), 1);
        due("fit(2, 0)", x.fit(2, 0), 0);
        due("fit(3, 0)", x.fit(3, 0), -1);
        due("fit(0, 4)", x.fit(0, 4), -1);
        // room for angle 1 alone: fit, unless it is to be whole; room for angle 2 alone: never fit
        x = of("row www;row ffw;row wtw;row fff;row ftf;door da 0 0 along 2 2;door db 2 0 across 3 0;");
        due("can(0, 2)", x.can(0, 2), 3);
        due("fit(0, 2)", x.fit(0, 2), 1);
        x = of("row www;row ffw;row wtw;door da 0 0 along 2 2 whole;");
        due("fit whole", x.fit(0, 2), 0);
        x = of("row ww;row ft;row ff;door da 0 0 along 2 2;");
        due("can", x.can(0, 2), 5);
        due("fit", x.fit(0, 2), 0);
        // a doorway is no floor
        x = of("row www;row fww;row fff;door da 0 0 along 2 2;door db 1 1 along 1 2;");
        due("can", x.can(0, 2), 5);
    }

    private static void bitesAndClashes() {
        promise = "11, 12";
        BitingDoors x = of(MANSION);
        // p by 0 sweeps 12 22 23 24 32 33; q by 2: 11 12 21; r by 2 or 3: 15
        due("bites(0, 0, 1, 2)", x.bites(0, 0, 1, 2), 1);
        due("bites(1, 2, 0, 0)", x.bites(1, 2, 0, 0), 1);
        due("bites(0, 0, 1, 3)", x.bites(0, 0, 1, 3), 1);
        due("bites(0, 1, 1, 3)", x.bites(0, 1, 1, 3), 1);
        due("bites(0, 1, 1, 2)", x.bites(0, 1, 1, 2), 0);
        due("bites(0, 0, 2, 3)", x.bites(0, 0, 2, 3), 0);
        due("bites(0, 2, 1, 2)", x.bites(0, 2, 1, 2), 0);
        due("one door", x.bites(0, 0, 0, 1), -1);
        due("no such door", x.bites(0, 0, 3, 1), -1);
        due("no such door", x.bites(-1, 0, 0, 1), -1);
        due("no such hanging", x.bites(0, 4, 1, 1), -1);
        due("no such hanging", x.bites(0, 0, 1, -1), -1);
        due("clashes", x.clashes(), 1);
        due("rehang", x.rehang(0, 1), true);
        due("clashes", x.clashes(), 0);
        // a hanging that is not fit still sweeps what it can
        x = of("row ww;row ft;row ff;row wf;door da 0 0 along 2 2;door db 0 3 along 1 0;");
        due("bites", x.bites(0, 2, 1, 0), 1);
        due("clashes", x.clashes(), 1);
        due("ways", x.ways(), 0);
    }

    private static void cheapestAndFewest() {
        promise = "13, 14, 15, 16";
        BitingDoors x = of(MANSION);
        due("cheapest", x.cheapest(), 9);
        due("hung(0)", x.hung(0), 1);
        due("hung(1)", x.hung(1), 2);
        due("hung(2)", x.hung(2), 3);
        due("hung(3)", x.hung(3), -1);
        due("hung(-1)", x.hung(-1), -1);
        due("fewest", x.fewest(), 1);
        due("fewestBy(0)", x.fewestBy(0), 1);
        due("fewestBy(3)", x.fewestBy(3), -1);
        x.rehang(0, 1);
        due("cheapest", x.cheapest(), 0);
        due("hung(0)", x.hung(0), 1);
        due("fewest", x.fewest(), 0);
        // da bites db and dc: it is dear to change da, and two changes to keep it
        String dear = "row wwwww;row wfffw;row wfffw;row wfffw;row wwwww;door da 0 1 across 3 2 may 3 costs 50;"
            + "door db 1 0 along 1 2;";
        x = of(dear);
        // da sweeps by 2: 11 21 22 32 | 11 12 13, by 3: 31 21 22 12 | 31 32 33; db: 11
        due("bites", x.bites(0, 2, 1, 2), 1);
        due("bites", x.bites(0, 3, 1, 2), 0);
        due("cheapest", x.cheapest(), 50);
        due("hung", x.hung(0), 3);
        x = of(fewOrCheap(9));
        due("clashes", x.clashes(), 2);
        due("cheapest of one dear or two cheap", x.cheapest(), 7);
        due("hung(0)", x.hung(0), 2);
        due("hung(1)", x.hung(1), 0);
        due("hung(2)", x.hung(2), 2);
        due("fewest", x.fewest(), 1);
        due("fewestBy(0)", x.fewestBy(0), 0);
        due("fewestBy(1)", x.fewestBy(1), 2);
        due("fewestBy(2)", x.fewestBy(2), 0);
        x = of(fewOrCheap(7));
        due("cheapest: of like ones the fewest", x.cheapest(), 7);
        due("hung(0)", x.hung(0), 0);
        due("hung(1)", x.hung(1), 2);
        due("hung(2)", x.hung(2), 0);
        // the same upside down: the fewest come ahead of the first
        x = of("row fwfffwf;row fwfffwf;row fwfffwf;row wwwwwww;row fwfffwf;row fwfffwf;row fwfffwf;"
            + "door da 2 3 along 3 0 may 2 costs 7;door db 1 2 across 1 2 may 0 costs 3;door dc 5 1 across 1 0 may 2 costs 4;");
        due("clashes", x.clashes(), 2);
        due("cheapest: the fewest ahead of the first", x.cheapest(), 7);
        due("hung(0)", x.hung(0), 2);
        due("hung(1)", x.hung(1), 2);
        due("hung(2)", x.hung(2), 0);
        x = of("row ww;row ww;door da 0 0 along 1 0;");
        due("cheapest", x.cheapest(), -1);
        due("hung", x.hung(0), -1);
        due("fewest", x.fewest(), -1);
        due("fewestBy", x.fewestBy(0), -1);
    }

    /** da by 2 sweeps 42 43 52 53 54 62 and bites db (42) and dc (54); all three may swing the other way. */
    private static String fewOrCheap(int price) {
        return "row fwfffwf;row fwfffwf;row fwfffwf;row wwwwwww;row fwfffwf;row fwfffwf;row fwfffwf;"
            + "door da 2 3 along 3 2 may 0 costs " + price + ";"
            + "door db 1 4 across 1 2 may 0 costs 3;door dc 5 5 across 1 0 may 2 costs 4;";
    }

    /** Both sweep 22 and may turn to another cell, the one to 2, the other to 20. */
    private static String eitherMayTurn(int one, int other) {
        return "row ffff;row ffwf;row fwff;door da 2 1 along 1 2 may 0 costs " + one + ";door db 1 2 across 1 2 may 0 costs " + other
            + ";";
    }

    private static void likeOnes() {
        promise = "13 to 16 (like ones)";
        // nothing bites: a door that is not fit as it hangs goes to the least of those that are
        BitingDoors x = of("row fff;row www;row www;row fff;door da 1 1 along 1 2 may 1 may 0;door db 1 2 along 1 1 may 3 may 2;");
        due("cheapest", x.cheapest(), 2);
        due("hung(0)", x.hung(0), 0);
        due("hung(1)", x.hung(1), 2);
        due("fewestBy(0)", x.fewestBy(0), 0);
        due("fewestBy(1)", x.fewestBy(1), 2);
        // of two that bite, either may be changed: the first way has the lesser hanging where the ways part
        x = of(eitherMayTurn(4, 4));
        due("bites", x.bites(0, 2, 1, 2), 1);
        due("cheapest", x.cheapest(), 4);
        due("hung(0)", x.hung(0), 0);
        due("hung(1)", x.hung(1), 2);
        due("fewestBy(0)", x.fewestBy(0), 0);
        due("fewestBy(1)", x.fewestBy(1), 2);
        // of like numbers of doors the least costs
        x = of(eitherMayTurn(5, 3));
        due("cheapest", x.cheapest(), 3);
        due("hung(0)", x.hung(0), 2);
        due("hung(1)", x.hung(1), 0);
        due("fewest", x.fewest(), 1);
        due("fewestBy(0)", x.fewestBy(0), 2);
        due("fewestBy(1)", x.fewestBy(1), 0);
        due("ways", x.ways(), 3);
    }

    private static void waysAndStuck() {
        promise = "17, 21";
        BitingDoors x = of(MANSION);
        // p by 1, q by 2, r by 2 or 3 (p by 0 bites q)
        due("ways", x.ways(), 2);
        due("stuck", x.stuck(), 0);
        StringBuilder ten = new StringBuilder("row ffffffffff;row wwwwwwwwww;row ffffffffff;");
        for (int i = 0; i < 10; i++) {
            ten.append("door d").append((char) ('a' + i)).append(' ').append(i).append(" 1 along 1 0 may 1 may 2 may 3;");
        }
        due("ways of ten doors", of(ten.toString()).ways(), 1048576);
        x = of("row wwww;row wffw;row wwww;door da 1 0 along 1 2;door db 2 0 along 1 2;door dc 1 2 along 1 0;door dd 2 2 along 1 0 may 2;");
        // da and dc sweep 11, db and dd sweep 12
        due("ways", x.ways(), 0);
        due("stuck: the least set as bits", x.stuck(), 5);
        x = of("row wwww;row wffw;row wwww;door da 1 0 along 1 2;door dc 1 2 along 1 0;door dd 2 2 along 1 2;");
        due("stuck: one that is never fit", x.stuck(), 4);
        // three that get on two by two: db may sweep 11, as da must, or 31, as dc must
        x = of("row www;row wfw;row www;row wfw;row www;door da 1 0 along 1 2;door db 1 2 along 1 0 may 2;door dc 1 4 along 1 0;");
        due("ways", x.ways(), 0);
        due("stuck: three", x.stuck(), 7);
        due("cheapest", x.cheapest(), -1);
        due("da forces db", x.forces(0, 2, 1), 2);
        due("and dc is dead then", x.forces(0, 2, 2), 2);
    }

    private static void forcing() {
        promise = "18, 19, 20";
        BitingDoors x = of(MANSION);
        due("no such door", x.forces(3, 0, 0), -2);
        due("no such hanging", x.forces(0, 4, 0), -2);
        due("no such what", x.forces(0, 0, 3), -2);
        due("no such what", x.forces(0, 0, -1), -2);
        due("not told with", x.forces(1, 3, 0), -2);
        due("not fit", x.forces(0, 2, 0), -2);
        due("ahead of any", x.forced(1), -1);
        // p by 1 leaves q its one, and r two
        due("how many", x.forces(0, 1, 0), 1);
        due("as bits", x.forces(0, 1, 1), 2);
        due("none is dead", x.forces(0, 1, 2), -1);
        due("forced(1)", x.forced(1), 2);
        due("forced(0)", x.forced(0), -1);
        due("forced(2)", x.forced(2), -1);
        due("forced(-1)", x.forced(-1), -1);
        due("forced(99)", x.forced(99), -1);
        due("forcedAt(0)", x.forcedAt(0), 1);
        due("forcedAt(1)", x.forcedAt(1), -1);
        due("forcedAt(-1)", x.forcedAt(-1), -1);
        // p by 0 bites q's only one: q is dead, nothing is forced
        due("how many", x.forces(0, 0, 0), 0);
        due("dead", x.forces(0, 0, 2), 1);
        due("forced(1)", x.forced(1), -1);
        // q by 2 forces p to 1
        due("as bits", x.forces(1, 2, 1), 1);
        due("forced(0)", x.forced(0), 1);
        x.forces(0, 2, 0);
        due("one that was -2 changes nothing", x.forced(0), 1);
        tell(x, "row ww;");
        x.house();
        due("it stays in a new house", x.forced(0), 1);
        due("it stays in a new house", x.forcedAt(0), 0);
    }

    private static void forcingGoesOn() {
        promise = "18, 19, 20 (one after the other)";
        // each door of a chain pushes the next one to its other side
        BitingDoors x = of(CHAIN);
        due("how many", x.forces(3, 0, 0), 3);
        due("as bits", x.forces(3, 0, 1), 7);
        due("order", x.forcedAt(0), 2);
        due("order", x.forcedAt(1), 1);
        due("order", x.forcedAt(2), 0);
        due("forced(2)", x.forced(2), 2);
        due("forced(1)", x.forced(1), 0);
        due("forced(0)", x.forced(0), 2);
        due("forced(3)", x.forced(3), -1);
        due("none", x.forces(3, 2, 0), 0);
        due("none", x.forcedAt(0), -1);
        // a door that has none from the start is dead, whatever is asked of
        x = of("row fff;row www;row fff;door da 0 1 along 1 0 may 2;door db 2 1 across 1 2;door dc 1 1 across 1 0;");
        due("dead: the least number", x.forces(0, 0, 2), 1);
        due("nothing forced", x.forces(0, 0, 0), 0);
    }

    /** Cell 33 is swept by dd and by dc by 0, cell 53 by dc and by db by 2, cell 51 by db and by da by 0. */
    private static final String CHAIN = "row wwwwwww;row wwwwwww;row wwwwwww;row wwwfwfw;row wwwwwww;row wfwfwww;row wwwwwww;row wfwwwww;"
        + "door da 1 6 along 1 0 may 2;door db 2 5 across 1 2 may 0;door dc 3 4 along 1 0 may 2;door dd 4 3 across 1 0 may 2;";

    private static void joining() {
        promise = "22, 23";
        BitingDoors x = of(MANSION);
        due("joiner", x.joiner(), 1);
        due("joinerAt(0)", x.joinerAt(0), 0);
        due("joinerAt(1)", x.joinerAt(1), -1);
        due("joinerAt(-1)", x.joinerAt(-1), -1);
        x.rehang(0, 1);
        due("nothing to change", x.joiner(), 0);
        due("joinerAt(0)", x.joinerAt(0), -1);
        // da, which can't be as it hangs, goes to the cell that db leaves: db goes first
        tell(x, SWAP);
        due("house", x.house(), 7);
        due("clashes", x.clashes(), 0);
        due("cheapest", x.cheapest(), 2);
        due("joiner", x.joiner(), 0);
        due("joinerAt(0)", x.joinerAt(0), 1);
        due("joinerAt(1)", x.joinerAt(1), 0);
        due("joinerAt(2)", x.joinerAt(2), -1);
        // three that move on one after the other, the last one first
        BitingDoors z = of("row www;row www;row wfw;row www;row wfw;row www;row wfw;"
            + "door da 1 1 along 1 0 may 2;door db 1 3 along 1 0 may 2;door dc 1 5 along 1 0 may 2;");
        due("cheapest", z.cheapest(), 3);
        due("joiner", z.joiner(), 0);
        due("joinerAt(0)", z.joinerAt(0), 2);
        due("joinerAt(1)", z.joinerAt(1), 1);
        due("joinerAt(2)", z.joinerAt(2), 0);
        BitingDoors y = of("row fff;row www;row www;row fff;door da 1 1 along 1 2 may 0;door db 1 2 along 1 1 may 3;");
        due("joiner", y.joiner(), 0);
        due("lesser numbers first", y.joinerAt(0), 0);
        due("lesser numbers first", y.joinerAt(1), 1);
        tell(x, "row ww;row ww;door da 0 0 along 1 0;");
        x.house();
        due("joiner", x.joiner(), -1);
        due("one that was NONE changes nothing", x.joinerAt(0), 1);
    }

    private static final String SWAP = "row www;row www;row wfw;row www;row wfw;"
        + "door da 1 1 along 1 0 may 2;door db 1 3 along 1 0 may 2;";

    private static void rehanging() {
        promise = "24";
        BitingDoors x = of(MANSION);
        due("rehang", x.rehang(0, 1), true);
        due("hanging", doorOr(x, 0, 4), 1);
        due("no minute", x.minutes(), 0);
        due("the same again", x.rehang(0, 1), true);
        due("not fit", x.rehang(0, 2), false);
        due("not told with", x.rehang(0, 3), false);
        due("not told with", x.rehang(1, 3), false);
        due("no such door", x.rehang(3, 0), false);
        due("no such door", x.rehang(-1, 0), false);
        due("no such hanging", x.rehang(0, 4), false);
        due("no such hanging", x.rehang(0, -1), false);
        due("hanging", doorOr(x, 0, 4), 1);
        x.stand(5, 3);
        due("opened", x.does(4), 0);
        due("not shut", x.rehang(0, 0), false);
        due("shut", x.does(5), 0);
        due("shut now", x.rehang(0, 0), true);
    }

    private static void standing() {
        promise = "25, 26";
        BitingDoors x = of(MANSION);
        due("place", x.place(), 36);
        due("stand", x.stand(1, 1), true);
        due("place", x.place(), 11);
        due("wall", x.stand(0, 0), false);
        due("thing", x.stand(3, 5), false);
        due("beyond", x.stand(8, 1), false);
        due("beyond", x.stand(-1, 1), false);
        due("a shut door", x.stand(2, 4), false);
        due("place", x.place(), 11);
        x.stand(5, 3);
        x.rehang(0, 1);
        due("open", x.does(4), 0);
        due("a doorway", x.stand(2, 4), true);
        due("place", x.place(), 42);
        due("a leaf", x.stand(2, 2), false);
        due("minutes", x.minutes(), 1);
        x = of(ROOMS);
        due("nowhere", x.place(), -1);
        due("stand", x.stand(1, 1), true);
        due("place", x.place(), 11);
    }

    private static void doing() {
        promise = "27, 28";
        BitingDoors x = of(MANSION);
        due("no such act", x.does(-2), -2);
        due("no such act", x.does(10), -2);
        due("no such act", x.does(Integer.MAX_VALUE), -2);
        due("north", x.does(0), 0);
        due("place", x.place(), 26);
        due("east, a wall", x.does(1), 2);
        due("south", x.does(2), 0);
        due("west", x.does(3), 0);
        due("place", x.place(), 35);
        due("minutes", x.minutes(), 3);
        due("waits", x.does(-1), 0);
        due("minutes", x.minutes(), 4);
        x.stand(3, 3);
        due("a leaf", x.does(2), 3);
        due("minutes", x.minutes(), 4);
        x.stand(3, 6);
        due("a thing", x.does(0), 2);
        x = of(ROOMS + DOORS);
        due("nowhere: a step", x.does(0), 1);
        due("nowhere: a swing", x.does(4), 1);
        due("nowhere: no such one", x.does(10), -2);
        due("nowhere: waits", x.does(-1), 0);
        due("minutes", x.minutes(), 1);
        x = of("row ff;bed 0 0;");
        due("beyond", x.does(0), 2);
        due("beyond", x.does(3), 2);
    }

    private static void doingSwings() {
        promise = "27 (swings)";
        BitingDoors x = of(MANSION);
        due("one does not stand at it", x.does(4), 4);
        due("not at it, and shut", x.does(5), 4);
        x.stand(5, 3);
        due("it is shut already", x.does(5), 5);
        due("opened", x.does(4), 0);
        due("angle", doorOr(x, 0, 5), 1);
        due("opened", x.does(4), 0);
        due("angle", doorOr(x, 0, 5), 2);
        due("open already", x.does(4), 5);
        // the leaf is at 12 22 32 now: at 21 one stands at the leaf, at 16 at neither
        x.stand(1, 2);
        due("at the leaf", x.does(5), 0);
        x.stand(6, 1);
        due("at neither", x.does(4), 4);
        x.stand(2, 2);
        due("one's own place", x.does(4), 7);
        due("angle", doorOr(x, 0, 5), 1);
        // q by 2 at angle 1 is at 11 21, at angle 2 at 11 12: p at angle 2 is on 12
        x.stand(3, 1);
        due("p", x.does(4), 0);
        x.stand(1, 3);
        due("q to 1", x.does(6), 0);
        due("q to 2: a leaf is in the way", x.does(6), 7);
        due("angle", doorOr(x, 1, 5), 1);
        due("p shut by one", x.does(5), 0);
        due("q to 2", x.does(6), 0);
        due("p again: a leaf is in the way", x.does(4), 7);
        x = of("row www;row ffw;row wtw;door da 0 0 along 2 2;bed 0 1;");
        due("one's own place is in the way", x.does(4), 7);
        x = of("row wwff;row ffff;row wtww;door da 0 0 along 2 2;bed 2 0;");
        due("to 1", x.does(4), 0);
        due("it can't be at 2", x.does(4), 6);
        due("to 0", x.does(5), 0);
        x = of("row wwff;row fffw;row fwww;door da 0 0 along 1 0;bed 1 1;");
        due("it can't be at 1", x.does(4), 6);
        // a doorway in which one stands can't be shut, and is no cell about one
        x = of("row fff;row www;row fff;door da 0 1 along 3 0;bed 0 2;");
        due("can", x.can(0, 0), 1);
        x = of("row fff;row fff;row fff;row www;row fff;door da 0 3 along 3 0;bed 2 4;");
        due("can", x.can(0, 0), 7);
        due("to 1", x.does(4), 0);
        due("into the doorway", x.does(0), 0);
        due("onto oneself", x.does(5), 7);
    }

    private static void draughtsBlow() {
        promise = "27 (draughts)";
        String house = HALL + "door da 1 0 along 1 2;door db 3 0 along 1 2;door dc 5 0 along 1 2;";
        BitingDoors x = of(house + "draught da db dc;bed 2 2;");
        due("da to 1", x.does(4), 4);
        x.stand(2, 1);
        due("da to 1", x.does(4), 0);
        due("da to 2", x.does(4), 0);
        due("db to 1", x.does(6), 0);
        x.stand(4, 1);
        due("dc to 1, and the draught shuts it", x.does(8), 0);
        due("dc", doorOr(x, 2, 5), 0);
        due("db to 0", x.does(7), 0);
        due("dc to 1", x.does(8), 0);
        due("dc to 2", x.does(8), 0);
        due("db to 1: the draught shuts dc by one", x.does(6), 0);
        due("dc", doorOr(x, 2, 5), 1);
        due("waits", x.does(-1), 0);
        due("dc", doorOr(x, 2, 5), 0);
        due("db stays", doorOr(x, 1, 5), 1);
        // one draught after the other, as told: the second finds what the first left
        x = of(house + "draught da db dc;draught da dc db;bed 2 1;");
        x.does(4);
        x.does(6);
        x.stand(4, 1);
        x.does(7);
        x.does(8);
        due("db to 1: dc is shut first, then db stays", x.does(6), 0);
        due("dc", doorOr(x, 2, 5), 0);
        due("db", doorOr(x, 1, 5), 1);
        // not onto him
        x = of(LOFT);
        due("aa to 1", x.does(4), 0);
        due("ab to 1", x.does(6), 0);
        x.stand(4, 2);
        due("ac to 1, shut at once", x.does(8), 0);
        due("ac", doorOr(x, 2, 5), 0);
        x.stand(1, 2);
        x.does(7);
        x.stand(4, 2);
        due("ac to 1", x.does(8), 0);
        due("ac to 2", x.does(8), 0);
        x.stand(1, 2);
        due("ab to 1", x.does(6), 0);
        due("ac", doorOr(x, 2, 5), 1);
        due("into its doorway", x.stand(6, 3), true);
        due("waits", x.does(-1), 0);
        due("ac", doorOr(x, 2, 5), 1);
        due("quiet", x.quiet(), 1);
        x.stand(4, 2);
        due("quiet", x.quiet(), 2);
        due("waits", x.does(-1), 0);
        due("ac", doorOr(x, 2, 5), 0);
    }

    /** Two doors of one cell in the west, one of two cells to the south. */
    private static final String LOFT = "row wwwwwwww;row wffffffw;row wffffffw;row wwwwwwww;row wffffffw;row wffffffw;row wwwwwwww;"
        + "door aa 0 1 across 1 2;door ab 1 3 along 1 2;door ac 5 3 along 2 2;draught aa ab ac;bed 1 2;";

    private static void days() {
        promise = "29";
        BitingDoors x = of(MANSION);
        tell(x, "go north 1;go east 30;go south 02;go west 3;open p;shut q;wait 30;");
        due("day", x.day(), 7);
        due("fault", x.fault(), 0);
        due("count(4)", x.count(4), 7);
        due("tape", x.count(5), 0);
        tell(x, "");
        due("an empty day", x.day(), 0);
        due("count(4)", x.count(4), 0);
        tell(x, "wait\n1 ; wait 2;");
        due("day with blanks", x.day(), 2);
        tell(x, "wait 1;".repeat(60));
        due("sixty acts", x.day(), 60);
        tell(x, "wait 1;" + blanks(593));
        due("600 bytes", x.day(), 1);
    }

    private static void dayFault(String text, int place, int kind) {
        BitingDoors x = of(MANSION);
        tell(x, "wait 1;wait 2;");
        x.day();
        tell(x, text);
        due("day() of " + text, x.day(), -1 - place);
        due("fault() of " + text, x.fault(), kind);
        due("the day stays: " + text, x.count(4), 2);
        due("the tape is empty: " + text, x.count(5), 0);
    }

    private static void dayFaults() {
        promise = "29, 5";
        dayFault("go", 2, 1);
        dayFault("sleep 1;", 0, 1);
        dayFault("go up 1;", 3, 1);
        dayFault("go 1;", 3, 1);
        dayFault("go north;", 8, 1);
        dayFault("go north 0;", 9, 2);
        dayFault("go north 31;", 9, 2);
        dayFault("go north 100;", 9, 1);
        dayFault("go north 1", 10, 1);
        dayFault("wait 0;", 5, 2);
        dayFault("wait 31;", 5, 2);
        dayFault("wait;", 4, 1);
        dayFault("open ;", 5, 1);
        dayFault("open z;", 5, 3);
        dayFault("open wait;", 5, 1);
        dayFault("open ww;", 5, 1);
        dayFault("shut 5;", 5, 1);
        dayFault("open p 1;", 7, 1);
        dayFault("wait 1;;", 7, 1);
        dayFault("wait 1;".repeat(60) + "wait", 420, 4);
        dayFault("wait 1;".repeat(60) + "north", 420, 1);
        dayFault("wait 1;" + blanks(594), 600, 1);
        dayFault("wait 1;" + blanks(592) + "wait 1;", 600, 1);
        dayFault("wait 1;" + blanks(592) + "north 1;", 599, 1);
    }

    private static void judgedIs(BitingDoors x, int... five) {
        for (int what = 0; what < 5; what++) {
            due("judged(" + what + ")", x.judged(what), five[what]);
        }
        due("judged(5)", x.judged(5), -2);
        due("judged(-1)", x.judged(-1), -2);
    }

    private static void judging() {
        promise = "30, 31, 32";
        BitingDoors x = of(MANSION);
        dayOf(x, "go north 2;go west 3;wait 4;");
        due("judge", x.judge(), -1);
        judgedIs(x, 0, 9, 13, 0, 0);
        due("now stays", x.place(), 36);
        due("minutes", x.minutes(), 0);
        dayOf(x, "go north 1;go north 4;wait 1;");
        due("judge", x.judge(), 1);
        judgedIs(x, 2, 2, 16, 0, 0);
        due("live", x.live(), 1);
        judgedIs(x, 2, 2, 16, 0, 0);
        due("now", x.place(), 16);
        due("minutes", x.minutes(), 2);
        due("live again", x.live(), 0);
        judgedIs(x, 2, 0, 16, 0, 0);
        due("minutes", x.minutes(), 2);
        x.does(-1);
        due("does() changes nothing of it", x.judged(1), 0);
        x = of(ROOMS + DOORS);
        dayOf(x, "wait 3;go north 1;");
        due("nowhere", x.judge(), 1);
        judgedIs(x, 1, 3, -1, 0, 0);
        dayOf(x, "open p;");
        due("nowhere", x.judge(), 0);
        due("knock", x.judged(0), 1);
        dayOf(x, "shut p;");
        due("nowhere", x.judge(), 0);
        due("knock", x.judged(0), 1);
        x.stand(3, 3);
        dayOf(x, "go south 1;");
        due("a leaf", x.judge(), 0);
        due("knock", x.judged(0), 3);
        tell(x, "row ww;");
        x.house();
        due("it stays in a new house", x.judged(0), 3);
        due("no day", x.judge(), -1);
        judgedIs(x, 0, 0, -1, 0, 0);
    }

    private static void judgingSwings() {
        promise = "30, 31, 32 (swings)";
        BitingDoors x = of(MANSION);
        dayOf(x, "go west 1;open p;open p;");
        due("so already", x.judge(), 2);
        judgedIs(x, 5, 3, 35, 0, 1);
        dayOf(x, "open p;");
        due("not at it", x.judge(), 0);
        judgedIs(x, 4, 0, 36, 0, 0);
        dayOf(x, "shut p;");
        due("not at it, though shut", x.judge(), 0);
        due("knock", x.judged(0), 4);
        dayOf(x, "go west 1;shut p;");
        due("shut already", x.judge(), 1);
        due("knock", x.judged(0), 5);
        dayOf(x, "go west 1;open p;shut p;open p;");
        due("judge", x.judge(), -1);
        judgedIs(x, 0, 7, 35, 0, 1);
        // p at angle 1, and one stands on 22, where angle 2 would be
        dayOf(x, "go west 1;open p;");
        due("live", x.live(), -1);
        x.does(5);
        due("stand", x.stand(2, 2), true);
        dayOf(x, "open p;");
        due("one's own place", x.judge(), 0);
        judgedIs(x, 7, 0, 22, 0, 1);
        // opened as far as it can be
        x = of("row wwff;row ffff;row wtww;door da 0 0 along 2 2;bed 2 0;");
        dayOf(x, "open da;open da;");
        due("at 1 it is so already", x.judge(), 1);
        judgedIs(x, 5, 1, 2, 0, 1);
        x = of("row wwff;row fffw;row fwww;door da 0 0 along 1 0;bed 1 1;");
        dayOf(x, "open da;");
        due("it can't be at 1", x.judge(), 0);
        due("knock", x.judged(0), 6);
        // a draught shuts what is being shut: the second minute is waited
        x = of(WAITING);
        due("aa to 1", x.does(4), 0);
        x.stand(4, 2);
        x.does(8);
        due("ac to 2", x.does(8), 0);
        due("where ac would be shut to", x.stand(6, 4), true);
        due("ab to 1", x.does(6), 0);
        due("ac stays", doorOr(x, 2, 5), 2);
        x.stand(4, 2);
        dayOf(x, "shut ac;wait 1;");
        due("judge", x.judge(), -1);
        judgedIs(x, 0, 3, 24, 1, 3);
        dayOf(x, "shut ac;shut ac;");
        due("judge", x.judge(), 1);
        judgedIs(x, 5, 2, 24, 1, 3);
        // a draught shuts what is being opened
        x = of(HALL + "door da 1 0 along 1 2;door db 3 0 along 1 2;door dc 5 0 along 1 2;draught da db dc;bed 2 1;");
        dayOf(x, "open da;go south 1;go east 2;go north 1;open dc;open db;");
        due("live", x.live(), -1);
        judgedIs(x, 0, 10, 14, 2, 3);
        dayOf(x, "open dc;wait 1;");
        due("opened in vain", x.judge(), -1);
        judgedIs(x, 0, 3, 14, 2, 3);
        x.does(7);
        x.does(7);
        x.does(8);
        x.does(8);
        dayOf(x, "open db;shut dc;");
        due("shut already", x.judge(), 1);
        judgedIs(x, 5, 2, 14, 2, 3);
        x.does(6);
        due("dc", doorOr(x, 2, 5), 1);
        x.does(7);
        x.does(8);
        x.does(8);
        due("dc", doorOr(x, 2, 5), 2);
    }

    /** As LOFT, but ab is where one stands in the way of ac. */
    private static final String WAITING = "row wwwwwwww;row wffffffw;row wffffffw;row wwwwwwww;row wffffffw;row wffffffw;row wwwwwwww;"
        + "door aa 0 1 across 1 2;door ab 7 5 across 1 0;door ac 5 3 along 2 2;draught aa ab ac;bed 1 2;";

    private static void waysThrough() {
        promise = "33, 34, 35";
        BitingDoors x = of(HALL + "door da 2 3 along 2 0;bed 4 2;");
        // the leaf by 0 goes to 22 23, then to 12 22; one stands at 24 and goes by 23 and 33 to 43
        due("way", x.way(3, 4), 5);
        int[] acts = {4, 4, 3, 2, 2};
        for (int i = 0; i < acts.length; i++) {
            due("wayAt(" + i + ")", x.wayAt(i), acts[i]);
        }
        due("wayAt(5)", x.wayAt(5), -1);
        due("wayAt(-1)", x.wayAt(-1), -1);
        due("a doorway", x.way(3, 3), 4);
        due("now stays", x.place(), 24);
        due("minutes", x.minutes(), 0);
        due("one's own place", x.way(4, 2), 0);
        due("wayAt(0)", x.wayAt(0), -1);
        due("walk", x.walk(), 0);
        x.way(3, 4);
        due("a wall", x.way(0, 0), -2);
        due("walk", x.walk(), 5);
        due("place", x.place(), 43);
        due("minutes", x.minutes(), 5);
        due("angle", doorOr(x, 0, 5), 2);
        due("walk again: it is open already", x.walk(), 0);
        due("minutes", x.minutes(), 5);
        x = of(HALL + "door da 2 3 along 2 0;bed 4 2;");
        x.way(3, 4);
        x.stand(1, 2);
        due("walk from elsewhere, as far as it goes", x.walk(), 2);
        due("minutes", x.minutes(), 2);
        tell(x, "row ww;row ff;bed 1 1;");
        x.house();
        due("a door that is not there", x.walk(), 0);
        due("wayAt stays in a new house", x.wayAt(4), 2);
    }

    private static void waysOfLikeLength() {
        promise = "33, 34 (like ones)";
        BitingDoors x = of("row ffff;row ffff;row ffff;bed 0 2;");
        due("way", x.way(2, 0), 4);
        int[] acts = {0, 0, 1, 1};
        for (int i = 0; i < acts.length; i++) {
            due("wayAt(" + i + ")", x.wayAt(i), acts[i]);
        }
        x.stand(3, 0);
        due("to the first cell of all", x.way(0, 0), 3);
        due("west", x.wayAt(2), 3);
        x.stand(0, 0);
        due("from the first cell of all", x.way(0, 2), 2);
        due("south", x.wayAt(1), 2);
        x.stand(2, 0);
        due("way", x.way(0, 2), 4);
        due("south ahead of west", x.wayAt(0), 2);
        due("south ahead of west", x.wayAt(3), 3);
        x.stand(1, 1);
        due("way", x.way(3, 2), 3);
        due("east ahead of south", x.wayAt(1), 1);
        due("then south", x.wayAt(2), 2);
        // two doors that both lead on: the one with the lesser number
        x = of("row wwwwwww;row wfffffw;row wfffffw;row wwwwwww;row wfffffw;row wwwwwww;door da 4 3 along 2 1;door db 1 3 along 2 0;bed 3 2;");
        due("way", x.way(3, 4), 6);
        due("da", x.wayAt(0), 4);
    }

    private static void waysThatAreNone() {
        promise = "33";
        BitingDoors x = of(MANSION);
        due("beyond", x.way(8, 0), -2);
        due("beyond", x.way(0, -1), -2);
        due("a wall", x.way(0, 0), -2);
        due("a thing", x.way(3, 5), -2);
        due("a doorway, opened on the way", x.way(0, 1), 10);
        due("a cell of one's room", x.way(1, 3), 5);
        x = of("row fwf;bed 0 0;");
        due("none", x.way(2, 0), -1);
        due("none", x.way(1, 0), -2);
        x = of("row fwf;");
        due("nowhere", x.way(2, 0), -2);
        StringBuilder six = new StringBuilder("row wwwwww;row ffffff;bed 0 1;");
        for (int i = 0; i < 6; i++) {
            six.append("door d").append((char) ('a' + i)).append(' ').append(i).append(" 0 along 1 2;");
        }
        x = of(six.substring(0, six.lastIndexOf("door")));
        due("five doors", x.way(5, 1), 5);
        due("five doors", x.stride(), 0);
        due("five doors", x.reach(1), 6);
        x = of(six.toString());
        due("six doors", x.way(0, 1), -2);
        due("six doors", x.stride(), -2);
        due("six doors", x.reach(1), -2);
        due("six doors", x.reach(0), 6);
    }

    private static void reaching() {
        promise = "36";
        BitingDoors x = of(HALL + "door da 2 3 along 2 0;bed 4 2;");
        due("reach(0)", x.reach(0), 10);
        due("reach(1)", x.reach(1), 22);
        due("reach(2)", x.reach(2), -1);
        due("reach(-1)", x.reach(-1), -1);
        x.does(4);
        x.does(4);
        // the leaf is on 12 and 22 now: 11 and 21 are cut off
        due("reach(0)", x.reach(0), 18);
        due("reach(1)", x.reach(1), 22);
        x = of(HALL);
        due("nowhere", x.reach(0), -1);
        due("nowhere", x.reach(1), -1);
    }

    private static void quietness() {
        promise = "37";
        BitingDoors x = of(HALL + "door da 1 0 along 1 2;door db 3 0 along 1 2;door dc 5 0 along 1 2;draught da db dc;bed 4 1;");
        due("quiet", x.quiet(), 1);
        x.does(8);
        x.does(8);
        x.stand(2, 1);
        x.does(4);
        due("quiet", x.quiet(), 1);
        x.does(6);
        due("dc was shut by one", doorOr(x, 2, 5), 1);
        due("one more, and the last", x.quiet(), 2);
        due("now stays", doorOr(x, 2, 5), 1);
        due("minutes", x.minutes(), 4);
        x.does(-1);
        due("quiet", x.quiet(), 1);
    }

    private static void striding() {
        promise = "38";
        BitingDoors x = of(HALL + "door da 2 3 along 2 0;bed 4 2;");
        due("at the bed", x.stride(), 0);
        x.stand(1, 1);
        due("steps", x.stride(), 4);
        x.way(2, 1);
        x.stride();
        due("the latest way stays", x.wayAt(0), 1);
        due("the latest way stays", x.wayAt(1), -1);
        x.stand(5, 5);
        due("by the door", x.stride(), 8);
        x = of("row fff;bed 0 0;");
        x.stand(2, 0);
        due("to the first cell of all", x.stride(), 2);
        x = of("row fwf;bed 0 0;");
        x.stand(2, 0);
        due("none", x.stride(), -1);
        x = of("row fwf;");
        x.stand(2, 0);
        due("no bed", x.stride(), -2);
        due("nowhere", of("row fwf;").stride(), -2);
    }

    private static void saidIs(BitingDoors x, String text, int ones, int doors) {
        tell(x, text);
        due("sentence() of " + text, x.sentence(), ones);
        due("fault() of " + text, x.fault(), 0);
        due("said() of " + text, x.said(), doors);
    }

    private static void sentences() {
        promise = "39, 40";
        BitingDoors x = of(MANSION);
        due("no sentence", x.said(), -1);
        saidIs(x, "fit", 1, 7);
        saidIs(x, "not fit", 2, 0);
        saidIs(x, "open", 1, 0);
        saidIs(x, "not open", 2, 7);
        saidIs(x, "at", 1, 0);
        saidIs(x, "bites p", 1, 2);
        saidIs(x, "bites q", 1, 1);
        saidIs(x, "bites r", 1, 0);
        saidIs(x, "angle=0", 1, 7);
        saidIs(x, "angle > 0", 1, 0);
        saidIs(x, "length=3", 1, 1);
        saidIs(x, "length<3", 1, 6);
        saidIs(x, "length>1", 1, 3);
        // p by 0 sweeps 12 22 23 24 32 33, q by 2 sweeps 11 12 21, r 15
        saidIs(x, "sweeps=6", 1, 1);
        saidIs(x, "sweeps=3", 1, 2);
        saidIs(x, "sweeps=1", 1, 4);
        saidIs(x, "may=2", 1, 5);
        saidIs(x, "may=1", 1, 2);
        saidIs(x, "costs=9", 1, 1);
        saidIs(x, "costs<99", 1, 7);
        saidIs(x, "costs=1 or costs=9 and length=2", 3, 6);
        saidIs(x, "(costs=1 or costs=9)and length=2", 4, 2);
        saidIs(x, "not length=1 or length=1", 3, 7);
        saidIs(x, "not (length=1 or length=2)", 4, 1);
        saidIs(x, "not not ((fit))", 5, 7);
        saidIs(x, "not length=1 and not length=2", 4, 1);
        saidIs(x, "fit or fit and open", 3, 7);
        saidIs(x, "open and fit or fit", 3, 7);
        x.does(3);
        saidIs(x, "at", 1, 1);
        x.does(4);
        due("as all is now", x.said(), 1);
        saidIs(x, "open", 1, 1);
        saidIs(x, "angle=1", 1, 1);
        x.does(5);
        x.rehang(0, 1);
        saidIs(x, "bites q", 1, 0);
        BitingDoors nowhere = of(ROOMS + DOORS);
        saidIs(nowhere, "at", 1, 0);
        BitingDoors unfit = of("row ww;row ft;row ff;door da 0 0 along 2 2 may 0;");
        saidIs(unfit, "fit or may>0", 2, 0);
        saidIs(unfit, "sweeps=2", 1, 1);
        saidIs(new BitingDoors(), "fit", 1, 0);
    }

    private static void sentenceFault(String text, int place, int kind) {
        BitingDoors x = of(MANSION);
        saidIs(x, "length=3", 1, 1);
        tell(x, text);
        due("sentence() of " + text, x.sentence(), -1 - place);
        due("fault() of " + text, x.fault(), kind);
        due("the sentence stays: " + text, x.said(), 1);
        due("the tape is empty: " + text, x.count(5), 0);
    }

    private static void sentenceFaults() {
        promise = "39, 5";
        sentenceFault("", 0, 1);
        sentenceFault("  ", 2, 1);
        sentenceFault("fit fit", 4, 1);
        sentenceFault("fit;", 3, 1);
        sentenceFault("fit)", 3, 1);
        sentenceFault("(fit", 4, 1);
        sentenceFault("()", 1, 1);
        sentenceFault("not", 3, 1);
        sentenceFault("fit or", 6, 1);
        sentenceFault("fit and or fit", 8, 1);
        sentenceFault("and fit", 0, 1);
        sentenceFault("shut", 0, 1);
        sentenceFault("angle", 5, 1);
        sentenceFault("angle 5", 6, 1);
        sentenceFault("angle=", 6, 1);
        sentenceFault("angle=p", 6, 1);
        sentenceFault("angle=100", 6, 1);
        sentenceFault("angle<=1", 6, 1);
        sentenceFault("bites", 5, 1);
        sentenceFault("bites z", 6, 3);
        sentenceFault("bites fit", 6, 1);
        sentenceFault("bites w", 6, 1);
        sentenceFault("bites 5", 6, 1);
        sentenceFault("fit & fit", 4, 1);
        BitingDoors x = of(MANSION);
        saidIs(x, "fit" + " or at".repeat(19), 20, 7);
        sentenceFault("fit" + " or at".repeat(20), 121, 4);
        sentenceFault("fit" + " or at".repeat(19) + " or (", 121, 4);
        sentenceFault("fit" + " or at".repeat(19) + " or )", 121, 1);
        saidIs(x, "not ".repeat(6) + "(fit)", 8, 7);
        sentenceFault("not ".repeat(8) + "fit", 32, 4);
        sentenceFault("((((((((fit", 8, 4);
        sentenceFault("((((((((not", 8, 4);
        sentenceFault("((((((((or", 8, 1);
        saidIs(x, "(((((((fit)))))))or fit", 9, 7);
        saidIs(x, "fit" + blanks(197), 1, 7);
        sentenceFault("fit" + blanks(198), 200, 1);
        sentenceFault("fit" + blanks(195) + "or fit", 200, 1);
        sentenceFault("fit" + blanks(196) + "at", 199, 1);
        saidIs(x, "fit" + blanks(187) + "or angle<9", 2, 7);
    }

    private static void imaging() {
        promise = "41, 42";
        BitingDoors x = of(MANSION);
        due("nothing kept", x.restore(0), false);
        due("no such place", x.image(2), false);
        due("no such place", x.image(-1), false);
        dayOf(x, "wait 1;");
        saidIs(x, "length=3", 1, 1);
        due("image", x.image(0), true);
        due("nothing kept there", x.restore(1), false);
        due("no such place", x.restore(2), false);
        due("no such place", x.restore(-1), false);
        x.does(3);
        x.does(4);
        x.rehang(2, 2);
        dayOf(x, "wait 1;wait 1;");
        saidIs(x, "fit", 1, 7);
        x.judge();
        x.forces(0, 1, 0);
        x.way(1, 1);
        due("image", x.image(1), true);
        tell(x, "row ff;bed 1 0;");
        due("house", x.house(), 2);
        x.does(3);
        tell(x, "row");
        due("restore(0)", x.restore(0), true);
        due("tape stays", x.count(5), 3);
        due("minutes stay", x.minutes(), 1);
        due("columns", x.count(0), 8);
        due("place", x.place(), 36);
        due("angle", doorOr(x, 0, 5), 0);
        due("hanging", doorOr(x, 2, 4), 3);
        due("day", x.count(4), 1);
        due("sentence", x.said(), 1);
        due("judged stays", x.judged(1), 2);
        due("forced stays", x.forced(1), 2);
        due("restore(1)", x.restore(1), true);
        due("place", x.place(), 35);
        due("angle", doorOr(x, 0, 5), 1);
        due("hanging", doorOr(x, 2, 4), 2);
        due("day", x.count(4), 2);
        due("sentence", x.said(), 7);
        x.does(4);
        due("what is done later is not kept", x.restore(1), true);
        due("angle", doorOr(x, 0, 5), 1);
        BitingDoors empty = new BitingDoors();
        due("image of nothing", empty.image(0), true);
        tell(empty, "row ff;bed 1 0;");
        empty.house();
        due("restore", empty.restore(0), true);
        due("columns", empty.count(0), 0);
        due("place", empty.place(), -1);
    }

    private static void counting() {
        promise = "43";
        BitingDoors x = of(MANSION + "draught p q r;");
        dayOf(x, "wait 1;wait 1;wait 2;");
        tell(x, "row");
        int[] counts = {8, 8, 3, 1, 3, 3};
        for (int what = 0; what < 6; what++) {
            due("count(" + what + ")", x.count(what), counts[what]);
        }
        due("count(6)", x.count(6), -1);
        due("count(-1)", x.count(-1), -1);
    }
}
