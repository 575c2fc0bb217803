/**
 * Each sentence of the document that names a boundary of what is told: the tape, the tokens, the house, the day, the sentence.
 * A text that is refused has its fault's place marked by ^.
 */
public final class TextBoundariesTest extends Kit {
    private static final String TEN_COLUMNS = "wwwwwwwwww";
    private static final String THREE = "row wwww;row ffff;door da 0 0 along 1 0;door db 1 0 along 1 0;door dc 2 0 along 1 0;";

    public static void main(String[] args) {
        newObject();
        feeding();
        ending();
        signs();
        words();
        numbers();
        runsOfSigns();
        houseEmptyAndFull();
        tokensAtTheLimit();
        rows();
        rowsAndColumnsOfDoors();
        doorways();
        hangings();
        costsAndWhole();
        names();
        draughts();
        beds();
        firstAndLeast();
        lineIsCutOff();
        latestFault();
        dayEmptyAndFull();
        dayActs();
        dayNumbers();
        dayDoors();
        sentenceEmptyAndFull();
        sentenceOnes();
        sentenceWithin();
        sentenceParts();
        newHouseHasNone();
        finish("TextBoundariesTest");
    }

    private static void takesHouse(String text, int lines) {
        BitingDoors x = busy();
        tell(x, text);
        due("house() of " + text, x.house(), lines);
        due("fault() of " + text, x.fault(), 0);
        due("the tape behind " + text, x.count(5), 0);
        due("minutes behind " + text, x.minutes(), 0);
    }

    private static void refusesHouse(String marked, int kind) {
        BitingDoors x = busy();
        String before = look(x);
        tell(x, marked.replace("^", ""));
        due("house() of " + marked, x.house(), -1 - marked.indexOf('^'));
        due("fault() of " + marked, x.fault(), kind);
        due("the tape behind " + marked, x.count(5), 0);
        due("what stays behind " + marked, look(x), before);
    }

    private static void takesDay(String text, int acts) {
        BitingDoors x = busy();
        tell(x, text);
        due("day() of " + text, x.day(), acts);
        due("fault() of " + text, x.fault(), 0);
        due("count(4) of " + text, x.count(4), acts);
        due("the tape behind " + text, x.count(5), 0);
        due("the sentence behind " + text, x.said(), 1);
    }

    private static void refusesDay(String marked, int kind) {
        BitingDoors x = busy();
        String before = look(x);
        tell(x, marked.replace("^", ""));
        due("day() of " + marked, x.day(), -1 - marked.indexOf('^'));
        due("fault() of " + marked, x.fault(), kind);
        due("the tape behind " + marked, x.count(5), 0);
        due("what stays behind " + marked, look(x), before);
    }

    private static void takesSentence(String text, int ones, int said) {
        BitingDoors x = busy();
        tell(x, text);
        due("sentence() of " + text, x.sentence(), ones);
        due("fault() of " + text, x.fault(), 0);
        due("said() of " + text, x.said(), said);
        due("the tape behind " + text, x.count(5), 0);
        due("the day behind " + text, x.count(4), 2);
    }

    private static void refusesSentence(String marked, int kind) {
        BitingDoors x = busy();
        String before = look(x);
        tell(x, marked.replace("^", ""));
        due("sentence() of " + marked, x.sentence(), -1 - marked.indexOf('^'));
        due("fault() of " + marked, x.fault(), kind);
        due("the tape behind " + marked, x.count(5), 0);
        due("what stays behind " + marked, look(x), before);
    }

    /** "An empty HOUSE, no DAY; an empty tape." */
    private static void newObject() {
        promise = "1";
        BitingDoors x = new BitingDoors();
        for (int what = 0; what <= 5; what++) {
            due("count(" + what + ")", x.count(what), 0);
        }
        due("house() of the empty tape", x.house(), 0);
        due("day() of the empty tape", x.day(), 0);
        due("said() without a sentence", x.said(), -1);
        BitingDoors other = busy();
        due("a new one beside a busy one", look(new BitingDoors()), lookOfNew());
        due("the busy one", other.place(), 35);
    }

    /** Of an object on which nothing was called: no cells, no doors, nowhere, nothing told. */
    private static String lookOfNew() {
        StringBuilder none = new StringBuilder("0 -2 0 -2 0 -2 0 -2 0 -2 cells ");
        none.append("-1 ".repeat(20)).append("doors now -1 0 -1 0 told ").append("-1 ".repeat(16));
        return none.toString();
    }

    /** "Twenty bytes come behind the tape, of each number the highest first ... NONE, and none come, if it would have more than 940." */
    private static void feeding() {
        promise = "2";
        BitingDoors x = new BitingDoors();
        for (int i = 1; i <= 47; i++) {
            due("feed " + i, x.feed(0x20202020, 0x20202020, 0x0a202020, 0x20202020, 0x2020200a), 20 * i);
        }
        due("the 48th feed", x.feed(0x72727272, 0, 0, 0, 0), -1);
        due("the tape stays full", x.count(5), 940);
        due("end", x.end(900), true);
        due("the bytes stay as they were", x.house(), 0);
        for (int size = 919; size <= 922; size++) {
            tell(x, blanks(size));
            due("feed behind " + size, x.feed(0, 0, 0, 0, 0), size <= 920 ? size + 20 : -1);
            due("the tape", x.count(5), size <= 920 ? size + 20 : size);
        }
        tell(x, "row ww;");
        due("feed behind 7", x.feed(0x726f7720, 0x66663b20, 0x20202020, 0x20202020, 0x20202020), 27);
        due("what was there and what came", x.house(), 2);
        due("the second row", x.cell(1, 1), 0);
        // each byte of each number, the highest first: "row wtf;" + "row ftw;" + "    "
        x.feed(0x726f7720, 0x7774663b, 0x726f7720, 0x6674773b, 0x20202020);
        due("house", x.house(), 2);
        due("cell(0, 0)", x.cell(0, 0), 1);
        due("cell(1, 0)", x.cell(1, 0), 2);
        due("cell(2, 1)", x.cell(2, 1), 1);
        due("the smallest and the largest number", x.feed(Integer.MIN_VALUE, Integer.MAX_VALUE, -1, 0, 1), 20);
        due("a byte 128 is no token", x.house(), -1);
        due("fault", x.fault(), 1);
        // a number's sign is no matter: 0xa0 is not taken for a blank
        x.feed(0x20a02020, 0x20202020, 0x20202020, 0x20202020, 0x20202020);
        due("a byte 160 is no blank", x.house(), -2);
    }

    /** "The tape has its first n bytes alone: true; false, if it has not so many, or n is below 0." */
    private static void ending() {
        promise = "3";
        BitingDoors x = new BitingDoors();
        due("end(0) of an empty tape", x.end(0), true);
        due("end(1) of an empty tape", x.end(1), false);
        due("end(-1) of an empty tape", x.end(-1), false);
        feed(x, "row wwwwww;row fffff");
        for (int n : new int[] {21, 940, 941, -1, -20, Integer.MIN_VALUE, Integer.MAX_VALUE}) {
            due("end(" + n + ")", x.end(n), false);
            due("the tape stays", x.count(5), 20);
        }
        due("end of as many as there are", x.end(20), true);
        due("count(5)", x.count(5), 20);
        due("end of fewer", x.end(11), true);
        due("what was cut off is gone", x.end(12), false);
        due("count(5)", x.count(5), 11);
        due("house", x.house(), 1);
        due("end behind house()", x.end(1), false);
        feed(x, "row w;");
        due("end of nothing", x.end(0), true);
        due("house of nothing", x.house(), 0);
        due("rows", x.count(1), 0);
    }

    /** "TOKENS of all texts, with blanks (32, 10) between them or not ... what is not as told is no TOKEN." */
    private static void signs() {
        promise = "4, 29, 39 (signs)";
        for (int sign = 0; sign < 256; sign++) {
            boolean blank = sign == 32 || sign == 10;
            boolean goesOn = sign >= 'a' && sign <= 'z' || sign >= '0' && sign <= '9';
            String one = String.valueOf((char) sign);
            if (blank) {
                takesHouse(one, 0);
                takesHouse("row" + one + "ww" + one + ";" + one, 1);
                takesDay(one + "wait" + one + "1" + one + ";", 1);
                takesSentence("fit" + one + "or" + one + "at", 2, 7);
            } else if (sign != '^') {
                refusesHouse("^" + one, 1);
                refusesHouse(goesOn ? "^row" + one + "ww;" : "row^" + one + "ww;", 1);
                refusesDay(goesOn ? "^wait" + one + "1;" : "wait^" + one + "1;", 1);
                refusesSentence(goesOn ? "^fit" + one + "or at" : "fit^" + one + "or at", 1);
            }
        }
        takesHouse("row ww;row ff;", 2);
        takesHouse("\n\nrow\n \nww\n;\n row ff ; ", 2);
        takesSentence("(fit)or(at)and(angle=0)", 6, 7);
        takesSentence("angle<1 or angle>0", 2, 7);
        BitingDoors x = busy();
        tell(x, "^");
        due("the sign by which places are marked here", x.house(), -1);
    }

    /** "WORDS: small letters, 1 to 10". */
    private static void words() {
        promise = "4, 29, 39 (words)";
        String row = "row wwww;row ffff;";
        for (String name : new String[] {"a", "z", "az", "abcdefghij", "zzzzzzzzzz"}) {
            takesHouse(row + "door " + name + " 0 0 along 1 0;", 3);
        }
        refusesHouse(row + "door ^abcdefghijk 0 0 along 1 0;", 1);
        refusesHouse(row + "door ^" + "z".repeat(800) + " 0 0 along 1 0;", 1);
        refusesHouse(row + "door ^Az 0 0 along 1 0;", 1);
        refusesHouse(row + "door a^Z 0 0 along 1 0;", 1);
        // words that end or begin alike are unlike ones
        takesHouse(row + "door a 0 0 along 1 0;door aa 1 0 along 1 0;door abcdefghij 2 0 along 1 0;door abcdefghik 3 0 along 1 0;", 6);
        refusesHouse(row + "door abcdefghij 0 0 along 1 0;door ^abcdefghij 1 0 along 1 0;", 3);
        refusesDay("open ^abcdefghij;", 3);
        refusesDay("open ^abcdefghijk;", 1);
        refusesSentence("bites ^abcdefghij", 3);
        refusesSentence("bites ^abcdefghijk", 1);
    }

    /** "NUMBERS: 1 to 2 digits". */
    private static void numbers() {
        promise = "4, 29, 39 (numbers)";
        String row = "row wwww;row ffff;";
        takesHouse(row + "door da 0 0 along 1 0;", 3);
        takesHouse(row + "door da 00 00 along 01 00 costs 01;", 3);
        refusesHouse(row + "door da ^000 0 along 1 0;", 1);
        refusesHouse(row + "door da 0 ^000 along 1 0;", 1);
        refusesHouse(row + "door da 0 0 along ^001 0;", 1);
        refusesHouse(row + "door da 0 0 along 1 ^000;", 1);
        refusesHouse(row + "door da 0 0 along 1 0 costs ^001;", 1);
        refusesHouse(row + "door da 0 0 along 1 0 costs ^4294967297;", 1);
        refusesHouse(row + "door da ^-1 0 along 1 0;", 1);
        refusesHouse(row + "bed ^000 1;", 1);
        refusesDay("wait ^001;", 1);
        refusesDay("go east ^4294967297;", 1);
        takesSentence("angle=00", 1, 6);
        takesSentence("angle<99", 1, 7);
        refusesSentence("angle=^000", 1);
        refusesSentence("angle<^100", 1);
    }

    /** "A WORD, NUMBER goes on as long as small letters and digits do". */
    private static void runsOfSigns() {
        promise = "4, 29, 39 (runs of signs)";
        refusesHouse("^rowww;", 1);
        refusesHouse("^row1;", 1);
        refusesHouse("row ^w1;", 1);
        refusesHouse("row ^1w;", 1);
        refusesHouse("row wwww;door ^da0 0 along 1 0;", 1);
        refusesHouse("row wwww;door da ^0a 0 along 1 0;", 1);
        refusesHouse("row wwww;door da 0 0 along 1 ^0may 1;", 1);
        refusesHouse("row wwww;door da 0 0 ^along1 0;", 1);
        takesHouse("row wwww;door da 0 0 along 1 0 whole;", 2);
        refusesDay("^wait1;", 1);
        refusesDay("^gonorth 1;", 1);
        refusesDay("go ^north1;", 1);
        refusesSentence("angle<^1or fit", 1);
        refusesSentence("^notfit", 1);
        refusesSentence("^bitesp", 1);
        refusesSentence("bites ^p1", 1);
    }

    /** "A HOUSE is a text of at most 900 bytes: { LINE ; }." "900, if there are more and no FAULT is ahead". */
    private static void houseEmptyAndFull() {
        promise = "4 (empty and full)";
        takesHouse("", 0);
        takesHouse(" ", 0);
        takesHouse(blanks(900), 0);
        refusesHouse(blanks(900) + "^ ", 1);
        refusesHouse(blanks(900) + "^" + blanks(40), 1);
        takesHouse("row ww" + blanks(893) + ";", 1);
        refusesHouse("row ww" + blanks(894) + "^;", 1);
        takesHouse("row ww;" + blanks(893), 1);
        refusesHouse("row ww;" + blanks(893) + "^ ", 1);
        refusesHouse("row ^xx;" + blanks(933), 2);
        refusesHouse("row ww;" + blanks(892) + "^;", 1);
        StringBuilder most = new StringBuilder(("row " + TEN_COLUMNS + ";").repeat(9) + "row fffffffffw;");
        for (int d = 0; d < 10; d++) {
            most.append("door d").append((char) ('a' + d)).append(' ').append(d).append(" 0 along 1 0 may 1 may 2 may 3 costs 99;");
        }
        most.append("draught da db dc;".repeat(6)).append("bed 0 9;");
        takesHouse(most.toString(), 27);
        takesHouse(most + blanks(900 - most.length()), 27);
        refusesHouse(most + blanks(900 - most.length()) + "^ ", 1);
        BitingDoors x = of(most.toString());
        int[] counts = {10, 10, 10, 6, 0, 0};
        for (int what = 0; what < 6; what++) {
            due("count(" + what + ") of the largest house", x.count(what), counts[what]);
        }
        due("the last door is numbered 9", x.cell(9, 0), 19);
        due("the last door", doorOr(x, 9, 0), 9);
        due("place", x.place(), 90);
    }

    /** "TOKENS that begin ahead of it are read whole". */
    private static void tokensAtTheLimit() {
        promise = "4, 29, 39 (tokens at the limit)";
        String one = "row w;" + blanks(889);
        String two = "row ww;" + blanks(888);
        refusesHouse(two + "row w^f;", 1);
        refusesHouse(two + "row ^wff;", 2);
        refusesHouse(one + "row ^ww;", 2);
        refusesHouse(two + "row ^wx;", 2);
        refusesHouse(two + "row ^w1;", 1);
        refusesHouse(two + "row ^" + TEN_COLUMNS + "w;", 1);
        refusesHouse(two + " row ^wff;", 1);
        refusesHouse(two + " row ^;", 1);
        refusesHouse(two + "row ^;;", 1);
        takesDay("wait 1;" + blanks(586) + "wait 2;", 2);
        refusesDay("wait 1;" + blanks(588) + "wait ^2;", 1);
        refusesDay("wait 1;" + blanks(587) + "wait ^0;", 2);
        refusesDay("wait 1;" + blanks(587) + "wait 3^0;", 1);
        refusesDay("wait 1;" + blanks(587) + "wait ^31;", 2);
        refusesDay("wait 1;" + blanks(587) + "wait ^300;", 1);
        refusesDay("wait 1;" + blanks(587) + "open ^zz;", 3);
        refusesSentence("fit or" + blanks(187) + "bites ^zz", 3);
        refusesSentence("fit or" + blanks(187) + "bites p^ ", 1);
        takesSentence("fit or" + blanks(187) + "bites p", 2, 7);
        refusesSentence("fit or" + blanks(188) + "bites ^p", 1);
        refusesSentence("fit or" + blanks(187) + "angle=^123", 1);
        refusesSentence("fit or" + blanks(187) + "angle=1^2", 1);
        takesSentence("fit or" + blanks(187) + "angle=1", 2, 7);
    }

    /** "'row' CELLS (a WORD of w, f, t ...; as many in each row as in the first ...)" "10 rows of at most 10 CELLS". */
    private static void rows() {
        promise = "4 (rows)";
        takesHouse("row w;", 1);
        takesHouse("row t;row f;", 2);
        takesHouse("row " + TEN_COLUMNS + ";", 1);
        refusesHouse("row ^" + TEN_COLUMNS + "w;", 1);
        refusesHouse("row ^;", 1);
        refusesHouse("row ^5;", 1);
        refusesHouse("row ^(;", 1);
        for (String other : new String[] {"wwx", "xww", "row", "e", "s", "g", "u", "v", "x", "a", "z"}) {
            refusesHouse("row ^" + other + ";", 2);
        }
        refusesHouse("row wwwww;row ^wwww;", 2);
        refusesHouse("row wwwww;row ^wwwwww;", 2);
        refusesHouse("row wwwww;row wwwww;row ^w;", 2);
        refusesHouse("row w;row ^" + TEN_COLUMNS + ";", 2);
        String nine = "row w;".repeat(9);
        takesHouse(nine + "row w;", 10);
        refusesHouse(nine + "row w;^row w;", 4);
        refusesHouse(nine + "row w;^row xx;", 4);
        refusesHouse(nine + "row w;^row", 4);
        refusesHouse(nine + "row w;^rows w;", 1);
        BitingDoors x = of("row wft;row tfw;");
        int[] cells = {1, 0, 2, 2, 0, 1};
        for (int i = 0; i < 6; i++) {
            due("from the west on, the first the most northern one", x.cell(i % 3, i / 3), cells[i]);
        }
    }

    /** "X where there is no such column, Y no such row", "in the rows told so far". */
    private static void rowsAndColumnsOfDoors() {
        promise = "4 (columns and rows of doors and beds)";
        String square = ("row " + TEN_COLUMNS + ";").repeat(10);
        takesHouse(square + "door da 9 9 along 1 0;", 11);
        takesHouse(square + "door da 9 9 across 1 0;", 11);
        takesHouse(square + "door da 0 0 across 1 0;", 11);
        refusesHouse(square + "door da ^10 0 along 1 0;", 2);
        refusesHouse(square + "door da 0 ^10 along 1 0;", 2);
        refusesHouse(square + "door da ^99 99 along 1 0;", 2);
        String small = "row www;row wfw;";
        takesHouse(small + "door da 2 1 along 1 0;", 3);
        refusesHouse(small + "door da ^3 1 along 1 0;", 2);
        refusesHouse(small + "door da 2 ^2 along 1 0;", 2);
        refusesHouse(small + "door da ^; 1", 1);
        refusesHouse(small + "door da 1 ^;", 1);
        refusesHouse("^5 5;", 1);
        refusesHouse("door da ^0 0 along 1 0;row w;", 2);
        refusesHouse("row w;door da 0 ^1 along 1 0;row w;", 2);
        takesHouse("row w;row w;door da 0 1 along 1 0;", 3);
        refusesHouse("row w;door da 0 0 across ^2 0;row w;", 2);
        takesHouse("row w;row w;door da 0 0 across 2 0;", 3);
        takesHouse(small + "bed 1 1;", 3);
        refusesHouse(small + "bed ^3 1;", 2);
        refusesHouse(small + "bed 1 ^2;", 2);
        refusesHouse("bed ^0 0;row f;", 2);
        refusesHouse("row f;bed 0 ^1;row f;", 2);
        takesHouse("row f;bed 0 0;row f;", 3);
    }

    /** "LENGTH 1 to 3", "all WALL, none of another DOORWAY", "a DOORWAY not of WALL in the HOUSE: at LENGTH". */
    private static void doorways() {
        promise = "4 (doorways)";
        String square = ("row " + TEN_COLUMNS + ";").repeat(10);
        for (int length = 1; length <= 3; length++) {
            int last = 10 - length;
            takesHouse(square + "door da " + last + " 9 along " + length + " 0;", 11);
            takesHouse(square + "door da 9 " + last + " across " + length + " 0;", 11);
            if (length > 1) {
                refusesHouse(square + "door da " + (last + 1) + " 9 along ^" + length + " 0;", 2);
                refusesHouse(square + "door da 9 " + (last + 1) + " across ^" + length + " 0;", 2);
            }
        }
        for (String bad : new String[] {"0", "4", "00", "99"}) {
            refusesHouse(square + "door da 0 0 along ^" + bad + " 0;", 2);
            refusesHouse(square + "door da 0 0 across ^" + bad + " 0;", 2);
        }
        for (String row : new String[] {"fww", "wfw", "wwf", "tww", "wtw", "wwt"}) {
            refusesHouse("row " + row + ";door da 0 0 along ^3 0;", 2);
            refusesHouse("row " + row.charAt(0) + ";row " + row.charAt(1) + ";row " + row.charAt(2) + ";door da 0 0 across ^3 0;", 2);
        }
        takesHouse("row wwf;door da 0 0 along 2 0;", 2);
        takesHouse("row fww;door da 1 0 along 2 0;", 2);
        String crossed = "row www;row www;row www;door da 1 0 across 3 0;";
        refusesHouse(crossed + "door db 0 0 along ^2 0;", 3);
        refusesHouse(crossed + "door db 1 0 along ^1 0;", 3);
        refusesHouse(crossed + "door db 1 2 along ^2 0;", 3);
        refusesHouse(crossed + "door db 0 1 along ^3 0;", 3);
        takesHouse(crossed + "door db 0 0 along 1 0;door dc 2 0 along 1 0;door dd 0 1 across 2 0;door de 2 1 across 2 0;", 8);
        // beyond the house and on another one: of one token the least
        refusesHouse(crossed + "door db 1 2 along ^3 0;", 2);
        refusesHouse("row wwf;door da 0 0 along 1 0;door db 0 0 along ^3 0;", 2);
        refusesHouse("row fww;door da 2 0 along 1 0;door db 0 0 along ^3 0;", 2);
        refusesHouse(crossed + "door db 1 0 ^2 0;", 1);
        refusesHouse(crossed + "door db 1 0 along ^whole;", 1);
        // a doorway that was told in a house that was refused is not there
        BitingDoors x = busy();
        tell(x, "row ww;door da 0 0 along 2 0");
        due("house", x.house(), -29);
        tell(x, "row ww;door da 0 0 along 2 0;");
        due("house", x.house(), 2);
    }

    /** "HANGING 0 to 3, unlike ones in a LINE". */
    private static void hangings() {
        promise = "4 (hangings)";
        String door = "row wwww;row ffff;door da 0 0 along 1 ";
        for (int h = 0; h < 4; h++) {
            takesHouse(door + h + ";", 3);
            refusesHouse(door + h + " may ^" + h + ";", 3);
            refusesHouse(door + h + " may ^4;", 2);
            BitingDoors x = of(door + h + ";");
            due("the hanging of now", doorOr(x, 0, 4), h);
            due("told with", doorOr(x, 0, 6), 1 << h);
        }
        refusesHouse(door + "^4;", 2);
        refusesHouse(door + "^99;", 2);
        refusesHouse(door + "^;", 1);
        refusesHouse(door + "^may 0;", 1);
        takesHouse(door + "3 may 2 may 1 may 0;", 3);
        due("told with all", doorOr(of(door + "3 may 2 may 1 may 0;"), 0, 6), 15);
        for (int h = 0; h < 4; h++) {
            refusesHouse(door + "3 may 2 may 1 may 0 may ^" + h + ";", 3);
        }
        refusesHouse(door + "3 may 2 may 1 may 0 may ^4;", 2);
        refusesHouse(door + "3 may 2 may 1 may 0 may ^;", 1);
        refusesHouse(door + "3 may 2 may ^02;", 3);
        refusesHouse(door + "3 may ^may 2;", 1);
        // another line may have the same ones
        takesHouse(door + "3 may 2;door db 1 0 along 1 3 may 2;", 4);
    }

    /** "[ 'costs' N ] [ 'whole' ] (... N 1 to 99, 1 without)". */
    private static void costsAndWhole() {
        promise = "4 (costs and whole)";
        String door = "row wwww;row ffff;door da 0 0 along 1 2";
        for (int costs : new int[] {1, 2, 98, 99}) {
            BitingDoors x = of(door + " costs " + costs + ";");
            due("costs", doorOr(x, 0, 7), costs);
            due("whole", doorOr(x, 0, 8), 0);
        }
        due("costs without", doorOr(of(door + ";"), 0, 7), 1);
        due("costs without", doorOr(of(door + " whole;"), 0, 7), 1);
        due("whole", doorOr(of(door + " whole;"), 0, 8), 1);
        due("whole", doorOr(of(door + " costs 7 whole;"), 0, 8), 1);
        refusesHouse(door + " costs ^0;", 2);
        refusesHouse(door + " costs ^00;", 2);
        refusesHouse(door + " costs ^100;", 1);
        refusesHouse(door + " costs ^;", 1);
        refusesHouse(door + " costs 1 ^costs 1;", 1);
        refusesHouse(door + " costs 1 ^may 1;", 1);
        refusesHouse(door + " whole ^whole;", 1);
        refusesHouse(door + " whole ^costs 1;", 1);
        refusesHouse(door + " whole ^may 1;", 1);
        refusesHouse(door + " ^5;", 1);
    }

    /** "NAME: a WORD, none of those told here, in a DAY or in a SENTENCE, nor of w, f, t alone; told once." "10 DOORS". */
    private static void names() {
        promise = "4 (names)";
        String row = "row wwww;row ffff;";
        String[] kept = {"row", "door", "along", "across", "may", "costs", "whole", "draught", "bed", "go", "open", "shut", "wait", "north",
            "east", "south", "west", "or", "and", "not", "fit", "at", "bites", "angle", "length", "sweeps", "w", "f", "t", "wf", "ttt",
            "wftwftwftw"};
        for (String word : kept) {
            refusesHouse(row + "door ^" + word + " 0 0 along 1 0;", 1);
            refusesHouse(THREE + "draught da db ^" + word + ";", 1);
            refusesDay("open ^" + word + ";", 1);
            refusesSentence("bites ^" + word, 1);
        }
        for (String name : new String[] {"ro", "rows", "doors", "wfa", "awf", "g", "o", "ors", "ande", "fits", "a", "wall", "floor", "thing"}) {
            BitingDoors x = of(row + "door " + name + " 0 0 along 1 2;");
            tell(x, "shut " + name + ";");
            due("day() of " + name, x.day(), 1);
            tell(x, "not bites " + name);
            due("sentence() of " + name, x.sentence(), 2);
            due("said() of " + name, x.said(), 1);
        }
        refusesHouse(row + "door ^;", 1);
        refusesHouse(row + "door ^0 0 along 1 0;", 1);
        refusesHouse(row + "door da 0 0 along 1 0;door ^da 1 0 along 1 0;", 3);
        StringBuilder ten = new StringBuilder("row " + TEN_COLUMNS + ";row " + TEN_COLUMNS + ";");
        for (int d = 0; d < 10; d++) {
            ten.append("door d").append((char) ('a' + d)).append(' ').append(d).append(" 0 along 1 0;");
        }
        takesHouse(ten.toString(), 12);
        refusesHouse(ten + "^door dk 0 1 along 1 0;", 4);
        refusesHouse(ten + "^door da 0 1 along 1 0;", 4);
        refusesHouse(ten + "^door", 4);
        takesHouse(ten + "draught da dj de;", 13);
    }

    /** "'draught' DOOR DOOR DOOR (three unlike ones)", "6 'draught' at most", "a NAME ... not told". */
    private static void draughts() {
        promise = "4 (draughts)";
        takesHouse(THREE + "draught da db dc;", 6);
        takesHouse(THREE + "draught dc db da;", 6);
        refusesHouse(THREE + "draught da ^da db;", 3);
        refusesHouse(THREE + "draught da db ^da;", 3);
        refusesHouse(THREE + "draught da db ^db;", 3);
        refusesHouse(THREE + "draught ^dd da db;", 3);
        refusesHouse(THREE + "draught da ^dd db;", 3);
        refusesHouse(THREE + "draught da db ^dd;", 3);
        refusesHouse(THREE + "draught da db ^d;", 3);
        refusesHouse(THREE + "draught da db ^dcc;", 3);
        refusesHouse(THREE + "draught da db ^;", 1);
        refusesHouse(THREE + "draught da ^;", 1);
        refusesHouse(THREE + "draught ^;", 1);
        refusesHouse(THREE + "draught da db dc ^da;", 1);
        refusesHouse(THREE + "draught da db ^dd;door dd 3 0 along 1 0;", 3);
        takesHouse(THREE + "door dd 3 0 along 1 0;draught da db dd;", 7);
        takesHouse(THREE + "draught da db dc;".repeat(6), 11);
        refusesHouse(THREE + "draught da db dc;".repeat(6) + "^draught da db dc;", 4);
        refusesHouse(THREE + "draught da db dc;".repeat(6) + "^draught", 4);
        due("count(3)", of(THREE + "draught da db dc;".repeat(6)).count(3), 6);
        // one line's doors are of no matter in the next one
        takesHouse(THREE + "draught da db dc;draught da db dc;", 7);
    }

    /** "'bed' X Y (once)", "'bed' is a FLOOR CELL", "a bed not on FLOOR: at Y", "bed told twice (... bed at its WORD)". */
    private static void beds() {
        promise = "4 (beds)";
        String house = "row wwt;row fff;door da 0 0 along 1 0;";
        takesHouse(house + "bed 0 1;", 4);
        takesHouse(house + "bed 2 1;", 4);
        refusesHouse(house + "bed 1 ^0;", 2);
        refusesHouse(house + "bed 2 ^0;", 2);
        refusesHouse(house + "bed 0 ^0;", 2);
        refusesHouse(house + "bed 0 1;^bed 0 1;", 3);
        refusesHouse(house + "bed 0 1;^bed 99 99;", 3);
        refusesHouse(house + "bed 0 1;^bed", 3);
        refusesHouse(house + "bed 0 1 ^1;", 1);
        refusesHouse(house + "bed ^da;", 1);
        refusesHouse(house + "bed ^;", 1);
        // a bed of a house that was refused was not told
        BitingDoors x = busy();
        tell(x, "row f;bed 0 0;row ff;");
        due("house", x.house(), -19);
        tell(x, "row f;bed 0 0;");
        due("house", x.house(), 2);
        due("place", x.place(), 0);
    }

    /** "FAULTS, the first along the text, of one TOKEN the least". */
    private static void firstAndLeast() {
        promise = "4, 29, 39 (the first, the least)";
        refusesHouse("row ww;row ^wx;row x;", 2);
        refusesHouse("row ww;row ^wwx;?", 2);
        refusesHouse("row ww;door da ^2 9 along 9 9;", 2);
        refusesHouse("row ww;door da 0 ^9 along 9 9;", 2);
        refusesHouse("row ww;door da 0 0 along ^9 9;", 2);
        refusesHouse("row ww;door da 0 0 along 1 ^9 may 9;", 2);
        refusesHouse("row ww;door da 0 0 along 1 1 may ^9 costs 0;", 2);
        refusesHouse("row w;".repeat(10) + "^roww w;", 1);
        refusesDay("wait ^0;wait 99;", 2);
        refusesDay("wait 1;".repeat(60) + "^waits 1;", 1);
        refusesDay("wait 1;".repeat(60) + "^;", 1);
        refusesSentence("bites ^zz and angle=123", 3);
        refusesSentence("at or ".repeat(20) + "^or", 1);
        refusesSentence("((((((((^)", 1);
    }

    /** "the end: how many bytes there are": a text cut off anywhere but behind a LINE. */
    private static void lineIsCutOff() {
        promise = "4, 29, 39 (the end)";
        String house = "row wwww;row ffff;door da 0 0 along 1 0 may 1 costs 5 whole;door db 1 0 along 1 0;door dc 2 0 along 1 0;"
            + "draught da db dc;bed 3 1;";
        for (int cut = 1; cut <= house.length(); cut++) {
            boolean behindToken = cut == house.length() || " ;".indexOf(house.charAt(cut)) >= 0 || house.charAt(cut - 1) == ' ';
            boolean behindLine = house.charAt(cut - 1) == ';';
            if (behindToken && !behindLine) {
                refusesHouse(house.substring(0, cut) + "^", 1);
                refusesHouse(house.substring(0, cut) + " \n^", 1);
                refusesHouse(house.substring(0, cut) + " ^<", 1);
            } else if (behindLine) {
                takesHouse(house.substring(0, cut), house.substring(0, cut).split(";").length);
            }
        }
        for (String act : new String[] {"go^", "go north^", "go north 1^", "open^", "open p^", "shut^", "shut p^", "wait^", "wait 1^"}) {
            refusesDay(act, 1);
            refusesDay("wait 1;" + act, 1);
            refusesDay(act.replace("^", " ^"), 1);
            refusesDay(act.replace("^", " ^("), 1);
        }
        for (String part : new String[] {"not^", "(^", "(fit^", "bites^", "angle^", "angle<^", "fit and^", "fit or^", "fit or(at^"}) {
            refusesSentence(part, 1);
            refusesSentence(part.replace("^", "\n^"), 1);
            refusesSentence(part.replace("^", " ^;"), 1);
        }
    }

    /** "The kind of the FAULT of the latest house(), day() or sentence(); 0 without one and ahead of any." */
    private static void latestFault() {
        promise = "5";
        BitingDoors x = new BitingDoors();
        due("ahead of any", x.fault(), 0);
        tell(x, "row x;");
        due("house", x.house(), -5);
        due("of a house", x.fault(), 2);
        due("a call between", x.does(-1), 0);
        due("stays", x.fault(), 2);
        tell(x, "open z;");
        due("stays while a text is told", x.fault(), 2);
        due("day", x.day(), -6);
        due("of a day", x.fault(), 3);
        due("an empty sentence", x.sentence(), -1);
        due("of a sentence", x.fault(), 1);
        tell(x, "fit");
        due("sentence", x.sentence(), 1);
        due("without one", x.fault(), 0);
        tell(x, "row w;".repeat(11));
        due("house", x.house(), -61);
        due("of a house", x.fault(), 4);
        due("an empty day", x.day(), 0);
        due("without one", x.fault(), 0);
        tell(x, "wait 0;");
        due("day", x.day(), -6);
        due("of a day", x.fault(), 2);
        due("image", x.image(0), true);
        due("an empty house", x.house(), 0);
        due("without one", x.fault(), 0);
        due("restore", x.restore(0), true);
        due("stays", x.fault(), 0);
    }

    /** "A DAY is a text of at most 600 bytes". */
    private static void dayEmptyAndFull() {
        promise = "29 (empty and full)";
        takesDay("", 0);
        takesDay("\n", 0);
        takesDay(blanks(600), 0);
        refusesDay(blanks(600) + "^ ", 1);
        refusesDay(blanks(600) + "^" + blanks(340), 1);
        takesDay("wait 1" + blanks(593) + ";", 1);
        refusesDay("wait 1" + blanks(594) + "^;", 1);
        takesDay("wait 1;" + blanks(593), 1);
        refusesDay("wait 1;" + blanks(593) + "^\n", 1);
        refusesDay("wait ^99;" + blanks(600), 2);
    }

    /** "4 a 61st ACT (at its first WORD)". */
    private static void dayActs() {
        promise = "29 (acts)";
        for (String act : new String[] {"wait 1;", "open p;", "shut q;", "go east 1;"}) {
            String sixty = "wait 1;".repeat(59) + act;
            takesDay(sixty, 60);
            refusesDay(sixty + "^" + act, 4);
            refusesDay(sixty + "^" + act.substring(0, act.indexOf(' ')), 4);
            refusesDay(sixty + "^" + act.substring(0, act.indexOf(' ')) + " 99;", 4);
        }
        takesDay("wait 1;".repeat(59), 59);
        for (String no : new String[] {"north", "row", "p", "waits", "5", ";", "(", "fit"}) {
            refusesDay("^" + no + " 1;", 1);
            refusesDay("wait 1;^" + no + " 1;", 1);
        }
        for (String no : new String[] {"up", "norths", "p", "1", ";", "go"}) {
            refusesDay("go ^" + no + " 1;", 1);
        }
        for (String side : new String[] {"north", "east", "south", "west"}) {
            takesDay("go " + side + " 1;", 1);
            refusesDay("go " + side + " ^;", 1);
            refusesDay("go " + side + " ^" + side + " 1;", 1);
            refusesDay("go " + side + " 1 ^1;", 1);
        }
    }

    /** "N 1 to 30". */
    private static void dayNumbers() {
        promise = "29 (numbers)";
        for (String act : new String[] {"wait ", "go north ", "go east ", "go south ", "go west "}) {
            takesDay(act + "1;", 1);
            takesDay(act + "01;", 1);
            takesDay(act + "30;", 1);
            refusesDay(act + "^0;", 2);
            refusesDay(act + "^00;", 2);
            refusesDay(act + "^31;", 2);
            refusesDay(act + "^99;", 2);
            refusesDay(act + "^300;", 1);
            refusesDay(act + "^p;", 1);
        }
    }

    /** "FAULTS: 1, 2, 3" of the doors of a day. */
    private static void dayDoors() {
        promise = "29 (doors)";
        for (String verb : new String[] {"open ", "shut "}) {
            takesDay(verb + "p;" + verb + "q;" + verb + "r;", 3);
            refusesDay(verb + "^s;", 3);
            refusesDay(verb + "^pp;", 3);
            refusesDay(verb + "^1;", 1);
            refusesDay(verb + "^;", 1);
            refusesDay(verb + "p ^q;", 1);
            refusesDay(verb + "p ^1;", 1);
            takesDay(verb + "p;" + verb + "p;", 2);
        }
        BitingDoors x = new BitingDoors();
        tell(x, "open p;");
        due("no door is told", x.day(), -6);
        due("fault", x.fault(), 3);
    }

    /** "A SENTENCE is a text of at most 200 bytes". */
    private static void sentenceEmptyAndFull() {
        promise = "39 (empty and full)";
        refusesSentence("^", 1);
        refusesSentence(" \n ^", 1);
        refusesSentence(blanks(200) + "^", 1);
        refusesSentence(blanks(200) + "^ ", 1);
        refusesSentence(blanks(200) + "^fit", 1);
        takesSentence(blanks(197) + "fit", 1, 7);
        refusesSentence(blanks(198) + "fi^t", 1);
        takesSentence("fit" + blanks(197), 1, 7);
        refusesSentence("fit" + blanks(197) + "^ ", 1);
        refusesSentence("fit" + blanks(197) + "^" + blanks(740), 1);
        refusesSentence("^fits" + blanks(500), 1);
    }

    /** "20 ONES", "4 a 21st ONE ... (at its first TOKEN)", "how many ONES (each not, bracket and other one)". */
    private static void sentenceOnes() {
        promise = "39 (ones)";
        String nineteen = "fit" + " or at".repeat(18);
        takesSentence(nineteen, 19, 7);
        takesSentence(nineteen + " or open", 20, 7);
        refusesSentence(nineteen + " or open or ^open", 4);
        refusesSentence(nineteen + " or open and ^open", 4);
        refusesSentence(nineteen + " or not ^open", 4);
        refusesSentence(nineteen + " or (^open)", 4);
        refusesSentence(nineteen + " or not ^not open", 4);
        refusesSentence(nineteen + " or not ^(open)", 4);
        refusesSentence(nineteen + " or (^(open))", 4);
        for (String one : new String[] {"fit", "at", "not", "(", "bites zz", "angle", "length", "sweeps", "may", "costs"}) {
            refusesSentence(nineteen + " or open or ^" + one, 4);
        }
        for (String no : new String[] {"or", "and", ")", ";", "5", "<", "shut", "p"}) {
            refusesSentence(nineteen + " or open or ^" + no, 1);
        }
        takesSentence("not fit or (not fit or (at))and not(open)or not not fit or angle<1 or bites p", 15, 7);
        takesSentence("(fit)or(fit)or(fit)or(fit)or(fit)or(fit)or(fit)or(fit)or(fit)or(fit)", 20, 7);
        refusesSentence("(fit)or(fit)or(fit)or(fit)or(fit)or(fit)or(fit)or(fit)or(fit)or(fit)or^(fit)", 4);
    }

    /** "8 within one another", "a ninth within (at its first TOKEN)". */
    private static void sentenceWithin() {
        promise = "39 (within)";
        takesSentence("(((((((fit)))))))", 8, 7);
        refusesSentence("((((((((^fit))))))))", 4);
        takesSentence("not not not not not not not fit", 8, 0);
        refusesSentence("not not not not not not not not ^fit", 4);
        takesSentence("not(not(not(not fit)))", 8, 7);
        refusesSentence("not(not(not(not(^fit))))", 4);
        refusesSentence("not(not(not(not(^not", 4);
        refusesSentence("((((((((^(", 4);
        refusesSentence("((((((((^bites zz", 4);
        refusesSentence("((((((((^zz", 1);
        // what stands beside is not within
        takesSentence("(((((((fit)))))))or(((((((fit)))))))and fit", 17, 7);
        takesSentence("(((((((fit or at and open or fit)))))))", 11, 7);
        refusesSentence("(((((((fit or at and (^open))))))))", 4);
        refusesSentence("(((((((fit)))))))or((((((((^fit", 4);
    }

    /** "SIGN: < = >", what may stand where, "3 (no such DOOR)". */
    private static void sentenceParts() {
        promise = "39 (parts)";
        for (String measure : new String[] {"angle", "length", "sweeps", "may", "costs"}) {
            takesSentence(measure + "<00", 1, 0);
            takesSentence(measure + ">99", 1, 0);
            takesSentence(measure + "<99", 1, 7);
            refusesSentence(measure + "^", 1);
            refusesSentence(measure + " ^1", 1);
            refusesSentence(measure + " ^or fit", 1);
            refusesSentence(measure + "=^=1", 1);
            refusesSentence(measure + "<^>1", 1);
            refusesSentence(measure + "=^p", 1);
            refusesSentence(measure + "=1 ^1", 1);
            refusesSentence(measure + "^;1", 1);
        }
        refusesSentence("fit ^fit", 1);
        refusesSentence("fit ^not fit", 1);
        refusesSentence("fit ^(fit)", 1);
        refusesSentence("(fit)^)", 1);
        refusesSentence("(fit ^fit)", 1);
        refusesSentence("(^)", 1);
        refusesSentence("not ^or fit", 1);
        refusesSentence("fit and ^and fit", 1);
        refusesSentence("bites p ^q", 1);
        refusesSentence("bites ^s", 3);
        refusesSentence("bites ^(p)", 1);
        BitingDoors x = new BitingDoors();
        tell(x, "bites p");
        due("no door is told", x.sentence(), -7);
        due("fault", x.fault(), 3);
        due("there is no sentence", x.said(), -1);
    }

    /** "A new HOUSE has no DAY, no SENTENCE." */
    private static void newHouseHasNone() {
        promise = "4 (a new house)";
        for (String house : new String[] {"", "row f;", MANSION}) {
            BitingDoors x = busy();
            tell(x, house);
            x.house();
            due("count(4)", x.count(4), 0);
            due("said", x.said(), -1);
            due("minutes", x.minutes(), 0);
            due("judge without a day", x.judge(), -1);
            due("judged(1)", x.judged(1), 0);
            due("the latest forces() stays", x.forced(0), 1);
            due("the latest joiner() stays", x.joinerAt(0), 0);
            due("the latest way() stays", x.wayAt(0), 0);
        }
        BitingDoors x = busy();
        tell(x, MANSION);
        x.house();
        due("the angles of a new house", doorOr(x, 0, 5), 0);
        due("the hangings of a new house", doorOr(x, 2, 4), 3);
        due("the bed of a new house", x.place(), 36);
        tell(x, ROOMS);
        x.house();
        due("nowhere without a bed", x.place(), -1);
    }
}
