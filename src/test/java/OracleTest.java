import java.util.ArrayList;
import java.util.Arrays;
import java.util.HashMap;
import java.util.HashSet;
import java.util.LinkedHashMap;
import java.util.List;
import java.util.Map;
import java.util.Random;
import java.util.Set;
import java.util.TreeMap;
import java.util.TreeSet;

/** Plays random runs of calls on the program and on a slow second reading of the document, and compares each answer. */
public final class OracleTest extends Kit {
    private static final int RUNS = 700;
    private static final int CALLS = 130;

    public static void main(String[] args) {
        int runs = args.length > 0 ? Integer.parseInt(args[0]) : RUNS;
        long first = args.length > 1 ? Long.parseLong(args[1]) : 1;
        int wrong = 0;
        Map<String, Integer> tally = new TreeMap<>();
        for (long seed = first; seed < first + runs && wrong < 5; seed++) {
            wrong += new Play(seed, tally).run() ? 0 : 1;
        }
        if (args.length > 2) {
            tally.forEach((k, v) -> System.out.println(k + " " + v));
        }
        System.out.println(wrong == 0 ? "OracleTest: all answers agree" : "OracleTest: " + wrong + " runs differ");
        if (wrong != 0) {
            System.exit(1);
        }
    }

    /** One run on a fresh object. */
    private static final class Play {
        final long seed;
        final Random random;
        final Teller teller;
        final BitingDoors program = new BitingDoors();
        final Model model = new Model();
        final List<String> log = new ArrayList<>();
        final Map<String, Integer> tally;

        Play(long seed, Map<String, Integer> tally) {
            this.seed = seed;
            this.tally = tally;
            random = new Random(seed);
            teller = new Teller(random);
        }

        boolean run() {
            for (int i = 0; i < CALLS; i++) {
                if (!oneTurn(i)) {
                    System.out.println("seed " + seed + ":");
                    for (String line : log) {
                        System.out.println("  " + line);
                    }
                    return false;
                }
            }
            return true;
        }

        int pick(int from, int to) {
            return from + random.nextInt(to - from + 1);
        }

        int someDoor() {
            int n = model.now.house.doors.size();
            return n == 0 || random.nextInt(12) == 0 ? pick(-2, 11) : random.nextInt(n);
        }

        int someHanging() {
            return random.nextInt(15) == 0 ? pick(-2, 5) : random.nextInt(4);
        }

        boolean oneTurn(int i) {
            int kind = i == 0 ? 0 : random.nextInt(100);
            if (kind < 5) {
                return tell(teller.house()) && same("house", program.house(), model.house()) && sameAll();
            }
            if (kind < 12) {
                return tell(teller.day(model.now.house)) && same("day", program.day(), model.day()) && sameAll();
            }
            if (kind < 19) {
                return tell(teller.sentence(model.now.house)) && same("sentence", program.sentence(), model.sentence())
                    && sameAll();
            }
            if (kind < 60) {
                return act();
            }
            return ask();
        }

        boolean act() {
            int a;
            int b;
            int cell;
            switch (random.nextInt(14)) {
                case 0:
                    a = someDoor();
                    b = someHanging();
                    return same("rehang " + a + " " + b, program.rehang(a, b) ? 1 : 0, model.rehang(a, b) ? 1 : 0);
                case 1:
                    cell = someCell();
                    a = cell % 100 - 5;
                    b = cell / 100 - 5;
                    return same("stand " + a + " " + b, program.stand(a, b) ? 1 : 0, model.stand(a, b) ? 1 : 0);
                case 2:
                    return same("judge", program.judge(), model.judge()) && sameJudged();
                case 3:
                    return same("live", program.live(), model.live()) && sameJudged() && sameNow();
                case 4:
                    cell = someCell();
                    a = cell % 100 - 5;
                    b = cell / 100 - 5;
                    return same("way " + a + " " + b, program.way(a, b), model.way(a, b)) && sameWay();
                case 5:
                    return same("walk", program.walk(), model.walk()) && sameNow();
                case 6:
                    a = random.nextInt(8) == 0 ? pick(-1, 2) : random.nextInt(2);
                    return random.nextInt(3) > 0 || same("image " + a, program.image(a) ? 1 : 0, model.image(a) ? 1 : 0);
                case 7:
                    a = random.nextInt(8) == 0 ? pick(-1, 2) : random.nextInt(2);
                    return random.nextInt(3) > 0
                        || same("restore " + a, program.restore(a) ? 1 : 0, model.restore(a) ? 1 : 0) && sameAll();
                default:
                    a = random.nextInt(20) == 0 ? pick(-3, 30) : usefulAct();
                    return same("does " + a, program.does(a), model.does(a)) && sameNow();
            }
        }

        /** Mostly one that can be stood on. */
        int someCell() {
            int x = pick(-1, 10);
            int y = pick(-1, 10);
            for (int i = 0; i < 20 && !model.now.house.open(x, y) && random.nextInt(20) > 0; i++) {
                x = pick(0, 9);
                y = pick(0, 9);
            }
            return 100 * (y + 5) + x + 5;
        }

        int usefulAct() {
            List<Integer> free = new ArrayList<>();
            for (int a = 0; a < 4 + 2 * model.now.house.doors.size(); a++) {
                if (model.now.knock(a) == 0) {
                    free.add(a);
                }
            }
            if (free.isEmpty() || random.nextInt(3) == 0) {
                return pick(-1, 3 + 2 * model.now.house.doors.size());
            }
            return free.get(random.nextInt(free.size()));
        }

        boolean ask() {
            int d = someDoor();
            int h = someHanging();
            int e = someDoor();
            int g = someHanging();
            int k = random.nextInt(3) == 0 ? pick(-1, 4) : pick(0, 2);
            if (random.nextInt(4) > 0 && d >= 0 && d < model.now.hang.length && e >= 0 && e < model.now.hang.length) {
                List<Integer> told = new ArrayList<>(model.now.house.doors.get(d).told);
                h = told.get(random.nextInt(told.size()));
                told = new ArrayList<>(model.now.house.doors.get(e).told);
                g = told.get(random.nextInt(told.size()));
            }
            switch (random.nextInt(18)) {
                case 0:
                    return same("clashes", program.clashes(), model.clashes());
                case 1:
                    return same("cheapest", program.cheapest(), model.cheapest());
                case 2:
                    return same("hung " + d, program.hung(d), model.hung(d));
                case 3:
                    return same("fewest", program.fewest(), model.fewest());
                case 4:
                    return same("fewestBy " + d, program.fewestBy(d), model.fewestBy(d));
                case 5:
                    return same("ways", program.ways(), model.ways());
                case 6:
                case 7:
                    return same("forces " + d + " " + h + " " + k, program.forces(d, h, k), model.forces(d, h, k))
                        && sameForced();
                case 8:
                    return same("stuck", program.stuck(), model.stuck());
                case 9:
                case 10:
                    return same("joiner", program.joiner(), model.joiner()) && sameJoiner();
                case 11:
                    return same("bites " + d + h + e + g, program.bites(d, h, e, g), model.bites(d, h, e, g));
                case 12:
                    return same("leaf " + d + h + g + k, program.leaf(d, h, g, k), model.leaf(d, h, g, k));
                case 13:
                    return same("reach " + k, program.reach(k), model.reach(k));
                case 14:
                    return same("reach 1", program.reach(1), model.reach(1)) && same("reach 0", program.reach(0), model.reach(0));
                case 15:
                    return same("quiet", program.quiet(), model.quiet());
                case 16:
                    return same("stride", program.stride(), model.stride()) && sameWay();
                default:
                    return same("said", program.said(), model.said());
            }
        }

        boolean tell(String text) {
            feed(program, text);
            model.tape = text;
            log.add("text of " + text.length() + ": " + text.replace('\n', '|'));
            return same("end", program.end(text.length()) ? 1 : 0, 1) && same("count 5", program.count(5), text.length());
        }

        boolean same(String call, int got, int due) {
            String verb = call.split(" ")[0];
            tally.merge(verb + (due == -1 ? " -1" : due == -2 ? " -2" : due == 0 ? " 0" : due < 0 ? " fault" : " more"), 1,
                Integer::sum);
            if (log.size() < 5000) {
                log.add(call + " -> " + got + (got == due ? "" : ", due " + due));
            }
            return got == due;
        }

        boolean sameAll() {
            boolean good = same("fault", program.fault(), model.fault);
            for (int what = -1; what < 7; what++) {
                good = good && same("count " + what, program.count(what), model.count(what));
            }
            for (int x = -1; x < 11; x++) {
                for (int y = -1; y < 11 && good; y++) {
                    good = good && program.cell(x, y) == model.cell(x, y) || same("cell " + x + y, 0, 1);
                }
            }
            for (int d = -1; d < 11; d++) {
                for (int h = -1; h < 5; h++) {
                    good = good && (program.can(d, h) == model.can(d, h) || same("can " + d + h, 0, 1));
                    good = good && (program.fit(d, h) == model.fit(d, h) || same("fit " + d + h, 0, 1));
                }
            }
            return good && sameNow() && sameJudged() && sameForced() && sameJoiner() && sameWay();
        }

        boolean sameNow() {
            boolean good = same("place", program.place(), model.place()) && same("minutes", program.minutes(), model.minutes);
            for (int d = -1; d < 11 && good; d++) {
                for (int what = -1; what < 10 && good; what++) {
                    good = doorOr(program, d, what) == model.door(d, what) || same("door " + d + " " + what, 0, 1);
                }
            }
            return good;
        }

        boolean sameJudged() {
            boolean good = true;
            for (int what = -1; what < 6 && good; what++) {
                good = same("judged " + what, program.judged(what), model.judged(what));
            }
            return good;
        }

        boolean sameForced() {
            boolean good = true;
            for (int e = -1; e < 11 && good; e++) {
                good = same("forced " + e, program.forced(e), model.forced(e))
                    && same("forcedAt " + e, program.forcedAt(e), model.forcedAt(e));
            }
            return good;
        }

        boolean sameJoiner() {
            boolean good = true;
            for (int i = -1; i < 11 && good; i++) {
                good = same("joinerAt " + i, program.joinerAt(i), model.joinerAt(i));
            }
            return good;
        }

        boolean sameWay() {
            boolean good = true;
            for (int i = -1; i < (model.way == null ? 0 : model.way.size()) + 2 && good; i++) {
                good = same("wayAt " + i, program.wayAt(i), model.wayAt(i));
            }
            return good;
        }
    }

    /** Makes up texts, some of them with faults. */
    private static final class Teller {
        final Random random;

        Teller(Random random) {
            this.random = random;
        }

        int pick(int from, int to) {
            return from + random.nextInt(to - from + 1);
        }

        String blank() {
            switch (random.nextInt(30)) {
                case 0:
                    return "  ";
                case 1:
                    return "\n";
                default:
                    return " ";
            }
        }

        String house() {
            if (random.nextInt(30) == 0) {
                return "";
            }
            char[][] grid = random.nextInt(10) == 0 ? wild() : rooms();
            StringBuilder text = new StringBuilder();
            for (char[] row : grid) {
                text.append("row").append(blank()).append(row).append(";");
            }
            int doors = random.nextInt(3) == 0 ? pick(0, random.nextInt(6) == 0 ? 11 : 10) : pick(2, 5);
            List<String> names = new ArrayList<>();
            Set<Integer> taken = new HashSet<>();
            for (int d = 0; d < doors; d++) {
                door(text, grid, names, taken, doors > 6);
            }
            int draughts = random.nextInt(20) == 0 ? 7 : pick(0, 3);
            for (int i = 0; i < draughts && names.size() > 2; i++) {
                List<String> some = new ArrayList<>(names);
                java.util.Collections.shuffle(some, random);
                text.append("draught ").append(some.get(0)).append(' ').append(some.get(1)).append(' ').append(some.get(2))
                    .append(blank()).append(";");
            }
            bed(text, grid);
            if (random.nextInt(25) == 0) {
                bed(text, grid);
            }
            while (random.nextInt(12) == 0 && text.length() < 930) {
                text.append("                                        ".substring(random.nextInt(40)));
            }
            if (random.nextInt(40) == 0) {
                while (text.length() < pick(896, 905)) {
                    text.append(' ');
                }
            }
            return cut(spoilt(text.toString(), 8));
        }

        String cut(String text) {
            return text.length() > 940 ? text.substring(0, 940) : text;
        }

        char[][] wild() {
            char[][] grid = new char[pick(1, random.nextInt(20) == 0 ? 11 : 10)][pick(1, 10)];
            for (char[] row : grid) {
                for (int x = 0; x < row.length; x++) {
                    row[x] = "wwfffffffft".charAt(random.nextInt(random.nextInt(3) == 0 ? 11 : 10));
                }
            }
            return grid;
        }

        char[][] rooms() {
            int height = random.nextInt(4) == 0 ? pick(4, 10) : pick(5, 7);
            int width = random.nextInt(4) == 0 ? pick(4, 10) : pick(5, 9);
            char[][] grid = new char[height][width];
            int midX = random.nextInt(3) == 0 ? pick(2, width - 2) : 0;
            int midY = random.nextInt(3) == 0 ? pick(2, height - 2) : 0;
            for (int y = 0; y < height; y++) {
                for (int x = 0; x < width; x++) {
                    boolean wall = x == 0 || y == 0 || x == width - 1 || y == height - 1 || x == midX || y == midY;
                    grid[y][x] = wall ? 'w' : random.nextInt(40) == 0 ? 't' : 'f';
                }
            }
            return grid;
        }

        void door(StringBuilder text, char[][] grid, List<String> names, Set<Integer> taken, boolean sparse) {
            boolean across = false;
            int x = 0;
            int y = 0;
            int length = 1;
            boolean good = false;
            for (int i = 0; i < 60 && !good; i++) {
                across = random.nextBoolean();
                length = pick(1, 3);
                x = pick(0, grid[0].length - 1);
                y = pick(0, grid.length - 1);
                good = true;
                for (int j = 0; j < length; j++) {
                    int cx = across ? x : x + j;
                    int cy = across ? y + j : y;
                    good = good && cx < grid[0].length && cy < grid.length && grid[cy][cx] == 'w' && !taken.contains(100 * cy + cx);
                }
                // a door that can't be hung at all leaves little to solve
                good = good && (i > 50 || random.nextInt(12) == 0 || !fitOnes(grid, x, y, across, length).isEmpty());
            }
            if (!good && random.nextInt(12) > 0) {
                return;
            }
            for (int j = 0; j < length; j++) {
                taken.add(across ? 100 * (y + j) + x : 100 * y + x + j);
            }
            String name = random.nextInt(100) == 0 ? word() : (random.nextBoolean() ? "x" : "d") + (char) ('a' + names.size());
            names.add(name);
            text.append("door ").append(name).append(blank()).append(x).append(' ').append(y).append(' ')
                .append(across ? "across" : "along").append(' ').append(length);
            List<Integer> hangings = new ArrayList<>(List.of(0, 1, 2, 3));
            java.util.Collections.shuffle(hangings, random);
            if (random.nextInt(9) > 0 && good) {
                keepFit(hangings, fitOnes(grid, x, y, across, length));
            }
            int many = Math.min(hangings.size(), sparse ? pick(2, 3) : pick(random.nextInt(3) == 0 ? 1 : 2, 4));
            for (int i = 0; i < many; i++) {
                text.append(i == 0 ? " " : " may ").append(hangings.get(i));
            }
            if (random.nextBoolean()) {
                text.append(" costs ").append(random.nextInt(100) == 0 ? 0 : pick(1, random.nextBoolean() ? 3 : 99));
            }
            if (random.nextInt(4) == 0) {
                text.append(" whole");
            }
            text.append(";");
        }

        /** Most doors are told with hangings that are fit, if there are any, so that there is something to solve. */
        void keepFit(List<Integer> hangings, List<Integer> fit) {
            if (!fit.isEmpty()) {
                List<Integer> unfit = new ArrayList<>(hangings);
                unfit.removeAll(fit);
                hangings.retainAll(fit);
                if (!unfit.isEmpty() && random.nextInt(3) == 0) {
                    hangings.add(0, unfit.get(0));
                }
            }
        }

        List<Integer> fitOnes(char[][] grid, int x, int y, boolean across, int length) {
            Model.House house = new Model.House();
            for (char[] row : grid) {
                house.rows.add(new String(row));
            }
            Model.Door door = new Model.Door();
            door.x = x;
            door.y = y;
            door.across = across;
            door.length = length;
            house.doors.add(door);
            List<Integer> fit = new ArrayList<>(List.of(0, 1, 2, 3));
            fit.removeIf(h -> !house.fit(0, h));
            return fit;
        }

        void bed(StringBuilder text, char[][] grid) {
            if (random.nextInt(8) == 0) {
                return;
            }
            int x = 0;
            int y = 0;
            for (int i = 0; i < 50 && (i == 0 || grid[y][x] != 'f'); i++) {
                x = pick(0, grid[0].length - 1);
                y = pick(0, grid.length - 1);
            }
            text.append("bed ").append(x).append(blank()).append(y).append(";");
        }

        String word() {
            return List.of("row", "door", "along", "across", "may", "costs", "whole", "draught", "bed", "go", "open", "shut", "wait",
                "north", "east", "south", "west", "or", "and", "not", "fit", "at", "bites", "angle", "length", "sweeps", "w", "ff",
                "twf", "zz", "a", "abcdefghij", "abcdefghijk", "123", "12", "0", "a1", "wx").get(random.nextInt(38));
        }

        String doorName(Model.House house) {
            if (house.doors.isEmpty() || random.nextInt(25) == 0) {
                return word();
            }
            return house.doors.get(random.nextInt(house.doors.size())).name;
        }

        String day(Model.House house) {
            StringBuilder text = new StringBuilder();
            int acts = random.nextInt(12) == 0 ? pick(55, 63) : pick(0, 9);
            for (int i = 0; i < acts; i++) {
                int n = random.nextInt(60) == 0 ? pick(0, 40) : pick(1, acts > 50 ? 1 : 4);
                switch (random.nextInt(acts > 50 ? 2 : 5)) {
                    case 0:
                        text.append("wait ").append(n);
                        break;
                    case 1:
                    case 2:
                        text.append("go ").append(List.of("north", "east", "south", "west").get(random.nextInt(4))).append(blank())
                            .append(n);
                        break;
                    case 3:
                        text.append("open ").append(doorName(house));
                        break;
                    default:
                        text.append("shut").append(blank()).append(doorName(house));
                        break;
                }
                text.append(random.nextInt(20) == 0 ? " ;" : ";");
            }
            if (random.nextInt(10) == 0) {
                while (text.length() < pick(596, 605)) {
                    text.append(' ');
                }
            }
            return cut(spoilt(text.toString(), 8));
        }

        String sentence(Model.House house) {
            StringBuilder text = new StringBuilder();
            cond(text, house, random.nextInt(4) == 0 ? 9 : 4);
            if (random.nextInt(15) == 0) {
                while (text.length() < pick(197, 204)) {
                    text.append(' ');
                }
            }
            return cut(spoilt(text.toString(), 8));
        }

        void cond(StringBuilder text, Model.House house, int depth) {
            int more = random.nextInt(3) > 0 ? 1 : pick(1, random.nextInt(10) == 0 ? 21 : 3);
            for (int i = 0; i < more; i++) {
                text.append(i == 0 ? "" : random.nextBoolean() ? " or " : " and ");
                one(text, house, depth);
            }
        }

        void one(StringBuilder text, Model.House house, int depth) {
            int kind = depth > 6 ? random.nextInt(6) > 0 ? random.nextInt(2) : random.nextInt(10)
                : depth > 0 ? random.nextInt(10) : 2 + random.nextInt(8);
            if (kind == 0) {
                text.append("not ");
                one(text, house, depth - 1);
            } else if (kind == 1) {
                text.append('(');
                cond(text, house, depth - 1);
                text.append(')');
            } else if (kind == 2) {
                text.append("bites ").append(doorName(house));
            } else if (kind < 6) {
                text.append(List.of("open", "fit", "at").get(kind - 3));
            } else {
                text.append(List.of("angle", "length", "sweeps", "may", "costs").get(random.nextInt(5)))
                    .append("<=>".charAt(random.nextInt(3))).append(random.nextInt(10) == 0 ? pick(0, 99) : pick(0, 4));
            }
        }

        String spoilt(String text, int rarely) {
            if (random.nextInt(rarely) > 0 || text.isEmpty()) {
                return text;
            }
            int at = random.nextInt(text.length());
            String behind = text.substring(at);
            switch (random.nextInt(5)) {
                case 0:
                    return text.substring(0, at);
                case 1:
                    return text.substring(0, at) + behind.substring(1);
                case 2:
                    return text.substring(0, at) + " " + word() + " " + behind;
                case 3:
                    return text.substring(0, at) + ";<=>().A\t!\0\u00e9 9w".charAt(random.nextInt(15)) + behind.substring(1);
                default:
                    return text.substring(0, at) + ";<=>().A\t!\0\u00e9 9w".charAt(random.nextInt(15)) + behind;
            }
        }
    }

    /** The document read a second time, slowly: sets of cells, all hangings one by one, all orders one by one. */
    private static final class Model {
        static final Set<String> KEPT = Set.of("row", "door", "along", "across", "may", "costs", "whole", "draught", "bed", "go", "open",
            "shut", "wait", "north", "east", "south", "west", "or", "and", "not", "fit", "at", "bites", "angle", "length", "sweeps");
        static final List<String> SIDES = List.of("north", "east", "south", "west");

        static final class Fault extends RuntimeException {
            private static final long serialVersionUID = 1L;
            final int kind;
            final int place;

            Fault(int kind, int place) {
                this.kind = kind;
                this.place = place;
            }
        }

        static final class Door {
            String name;
            int x;
            int y;
            int length;
            int first;
            int costs = 1;
            boolean across;
            boolean whole;
            Set<Integer> told = new TreeSet<>();
        }

        static final class House {
            List<String> rows = new ArrayList<>();
            List<Door> doors = new ArrayList<>();
            List<int[]> draughts = new ArrayList<>();
            int bed = -1;
            int lines;

            int columns() {
                return rows.isEmpty() ? 0 : rows.get(0).length();
            }

            char sign(int x, int y) {
                return y < 0 || y >= rows.size() || x < 0 || x >= columns() ? '?' : rows.get(y).charAt(x);
            }

            Set<Integer> doorway(int d) {
                return leaf(d, 0, 0);
            }

            int doorOf(int x, int y) {
                for (int d = 0; d < doors.size(); d++) {
                    if (doorway(d).contains(key(x, y))) {
                        return d;
                    }
                }
                return -1;
            }

            boolean floor(int x, int y) {
                return sign(x, y) == 'f';
            }

            boolean open(int x, int y) {
                return floor(x, y) || doorOf(x, y) >= 0;
            }

            /** Keys leave room for places outside the house. */
            static int key(int x, int y) {
                return 1000 * (y + 100) + x + 100;
            }

            static int keyX(int key) {
                return key % 1000 - 100;
            }

            static int keyY(int key) {
                return key / 1000 - 100;
            }

            Set<Integer> leaf(int d, int h, int angle) {
                Door door = doors.get(d);
                int ux = door.across ? 0 : 1;
                int uy = door.across ? 1 : 0;
                int hx = door.x;
                int hy = door.y;
                if (h == 1 || h == 3) {
                    hx += (door.length - 1) * ux;
                    hy += (door.length - 1) * uy;
                    ux = -ux;
                    uy = -uy;
                }
                int vx = door.across ? (h < 2 ? -1 : 1) : 0;
                int vy = door.across ? 0 : (h < 2 ? -1 : 1);
                int[][] at;
                if (angle == 0) {
                    at = new int[][] {{0, 0}, {1, 0}, {2, 0}};
                    at = Arrays.copyOf(at, door.length);
                } else if (angle == 2) {
                    at = new int[][] {{0, 1}, {0, 2}, {0, 3}};
                    at = Arrays.copyOf(at, door.length);
                } else if (door.length == 1) {
                    at = new int[][] {{0, 1}};
                } else if (door.length == 2) {
                    at = new int[][] {{0, 1}, {1, 1}};
                } else {
                    at = new int[][] {{0, 1}, {1, 1}, {1, 2}, {2, 2}};
                }
                Set<Integer> cells = new TreeSet<>();
                for (int[] ij : at) {
                    cells.add(key(hx + ij[0] * ux + ij[1] * vx, hy + ij[0] * uy + ij[1] * vy));
                }
                return cells;
            }

            boolean can(int d, int h, int angle) {
                if (angle == 0) {
                    return true;
                }
                for (int cell : leaf(d, h, angle)) {
                    if (!floor(keyX(cell), keyY(cell)) || doorOf(keyX(cell), keyY(cell)) >= 0) {
                        return false;
                    }
                }
                return true;
            }

            Map<Integer, Set<Integer>> sweptBefore = new HashMap<>();

            Set<Integer> swept(int d, int h) {
                return sweptBefore.computeIfAbsent(4 * d + h, k -> sweptAnew(d, h));
            }

            Set<Integer> sweptAnew(int d, int h) {
                Set<Integer> cells = new HashSet<>();
                for (int angle = 1; angle < 3; angle++) {
                    if (can(d, h, angle)) {
                        cells.addAll(leaf(d, h, angle));
                    }
                }
                return cells;
            }

            boolean fit(int d, int h) {
                return can(d, h, 1) && (!doors.get(d).whole || can(d, h, 2));
            }

            int shared(int d, int h, int e, int g) {
                Set<Integer> both = new HashSet<>(swept(d, h));
                both.retainAll(swept(e, g));
                return both.size();
            }

            int find(String name) {
                for (int d = 0; d < doors.size(); d++) {
                    if (doors.get(d).name.equals(name)) {
                        return d;
                    }
                }
                return -1;
            }
        }

        static final class Now {
            House house = new House();
            int[] hang = new int[0];
            int[] angle = new int[0];
            boolean stands;
            int x;
            int y;

            Now copy() {
                Now other = new Now();
                other.house = house;
                other.hang = hang.clone();
                other.angle = angle.clone();
                other.stands = stands;
                other.x = x;
                other.y = y;
                return other;
            }

            Set<Integer> leafNow(int d) {
                return house.leaf(d, hang[d], angle[d]);
            }

            boolean leafOn(int px, int py) {
                for (int d = 0; d < hang.length; d++) {
                    if (leafNow(d).contains(House.key(px, py))) {
                        return true;
                    }
                }
                return false;
            }

            boolean at(int d) {
                if (!stands) {
                    return false;
                }
                Set<Integer> all = new HashSet<>(leafNow(d));
                all.addAll(house.doorway(d));
                for (int dy = -1; dy <= 1; dy++) {
                    for (int dx = -1; dx <= 1; dx++) {
                        if ((dx != 0 || dy != 0) && all.contains(House.key(x + dx, y + dy))) {
                            return true;
                        }
                    }
                }
                return false;
            }

            boolean blocked(int d, int next) {
                for (int cell : house.leaf(d, hang[d], next)) {
                    if (stands && cell == House.key(x, y)) {
                        return true;
                    }
                    for (int e = 0; e < hang.length; e++) {
                        if (e != d && leafNow(e).contains(cell)) {
                            return true;
                        }
                    }
                }
                return false;
            }

            int knock(int act) {
                if (act == -1) {
                    return 0;
                }
                if (!stands) {
                    return 1;
                }
                if (act < 4) {
                    int px = x + (act == 1 ? 1 : act == 3 ? -1 : 0);
                    int py = y + (act == 2 ? 1 : act == 0 ? -1 : 0);
                    return !house.open(px, py) ? 2 : leafOn(px, py) ? 3 : 0;
                }
                int d = act / 2 - 2;
                int next = act % 2 == 0 ? angle[d] + 1 : angle[d] - 1;
                if (!at(d)) {
                    return 4;
                }
                if (next == -1 || next == 3) {
                    return 5;
                }
                return !house.can(d, hang[d], next) ? 6 : blocked(d, next) ? 7 : 0;
            }

            /** Does it and lets the minute end: how many times a draught shut. */
            int perform(int act) {
                if (act >= 4) {
                    angle[act / 2 - 2] += act % 2 == 0 ? 1 : -1;
                } else if (act >= 0) {
                    x += act == 1 ? 1 : act == 3 ? -1 : 0;
                    y += act == 2 ? 1 : act == 0 ? -1 : 0;
                }
                int shuts = 0;
                for (int[] draught : house.draughts) {
                    int c = draught[2];
                    if (angle[draught[0]] != 0 && angle[draught[1]] != 0 && angle[c] != 0) {
                        if (house.can(c, hang[c], angle[c] - 1) && !blocked(c, angle[c] - 1)) {
                            angle[c]--;
                            shuts++;
                        }
                    }
                }
                return shuts;
            }

            String state() {
                return x + "," + y + Arrays.toString(angle);
            }
        }

        String tape = "";
        int fault;
        int minutes;
        Now now = new Now();
        List<int[]> day;
        List<String> sentence;
        Now[] keptNow = new Now[2];
        List<List<int[]>> keptDay = new ArrayList<>(Arrays.asList(null, null));
        List<List<String>> keptSentence = new ArrayList<>(Arrays.asList(null, null));
        int[] report;
        List<Integer> way;
        List<int[]> forced = new ArrayList<>();
        List<Integer> order = new ArrayList<>();

        // ---- reading

        List<String> tokens;
        List<Integer> places;
        int next;
        int over;

        void tokenise(int limit) {
            tokens = new ArrayList<>();
            places = new ArrayList<>();
            next = 0;
            int i = 0;
            while (i < tape.length() && i < limit) {
                char c = tape.charAt(i);
                if (c == ' ' || c == '\n') {
                    i++;
                    continue;
                }
                int j = i;
                while (j < tape.length() && String.valueOf(tape.charAt(j)).matches("[a-z0-9]")) {
                    j++;
                }
                j = Math.max(j, i + 1);
                tokens.add(tape.substring(i, j));
                places.add(i);
                i = j;
            }
            over = tape.length() > limit ? limit : -1;
            tokens.add(over >= 0 ? "TOO LONG" : "END");
            places.add(over >= 0 ? over : tape.length());
            tape = "";
        }

        String token() {
            String t = tokens.get(next);
            boolean good = t.equals("END") || t.matches("[a-z]{1,10}|[0-9]{1,2}|[;<=>()]");
            return good ? t : "BAD";
        }

        Fault faulty(int kind) {
            return new Fault(kind, places.get(next));
        }

        void expect(String what) {
            if (!token().equals(what)) {
                throw faulty(1);
            }
            next++;
        }

        boolean isWord() {
            return token().matches("[a-z]{1,10}");
        }

        String name() {
            if (!isWord() || KEPT.contains(token()) || token().matches("[wft]+")) {
                throw faulty(1);
            }
            return token();
        }

        int number(int least, int most) {
            if (!token().matches("[0-9]{1,2}")) {
                throw faulty(1);
            }
            int n = Integer.parseInt(token());
            if (n < least || n > most) {
                throw faulty(2);
            }
            return n;
        }

        int doorNamed(House house) {
            int d = house.find(name());
            if (d < 0) {
                throw faulty(3);
            }
            return d;
        }

        int house() {
            try {
                tokenise(900);
                House told = readHouse();
                fault = 0;
                now = new Now();
                now.house = told;
                now.angle = new int[told.doors.size()];
                now.hang = told.doors.stream().mapToInt(d -> d.first).toArray();
                now.stands = told.bed >= 0;
                now.x = Math.max(0, told.bed) % 10;
                now.y = Math.max(0, told.bed) / 10;
                day = null;
                sentence = null;
                minutes = 0;
                return told.lines;
            } catch (Fault f) {
                fault = f.kind;
                return -1 - f.place;
            }
        }

        House readHouse() {
            House told = new House();
            while (!token().equals("END")) {
                String first = token();
                if (first.equals("row")) {
                    readRow(told);
                } else if (first.equals("door")) {
                    readDoor(told);
                } else if (first.equals("draught")) {
                    if (told.draughts.size() == 6) {
                        throw faulty(4);
                    }
                    next++;
                    List<Integer> three = new ArrayList<>();
                    for (int i = 0; i < 3; i++) {
                        int d = doorNamed(told);
                        if (three.contains(d)) {
                            throw faulty(3);
                        }
                        three.add(d);
                        next++;
                    }
                    told.draughts.add(three.stream().mapToInt(d -> d).toArray());
                } else if (first.equals("bed")) {
                    if (told.bed >= 0) {
                        throw faulty(3);
                    }
                    next++;
                    int x = number(0, told.columns() - 1);
                    next++;
                    int y = number(0, told.rows.size() - 1);
                    if (!told.floor(x, y)) {
                        throw faulty(2);
                    }
                    told.bed = 10 * y + x;
                    next++;
                } else {
                    throw faulty(1);
                }
                expect(";");
                told.lines++;
            }
            return told;
        }

        void readRow(House told) {
            if (told.rows.size() == 10) {
                throw faulty(4);
            }
            next++;
            if (!isWord()) {
                throw faulty(1);
            }
            if (!token().matches("[wft]+") || !told.rows.isEmpty() && token().length() != told.columns()) {
                throw faulty(2);
            }
            told.rows.add(token());
            next++;
        }

        void readDoor(House told) {
            if (told.doors.size() == 10) {
                throw faulty(4);
            }
            next++;
            Door door = new Door();
            door.name = name();
            if (told.find(door.name) >= 0) {
                throw faulty(3);
            }
            next++;
            door.x = number(0, told.columns() - 1);
            next++;
            door.y = number(0, told.rows.size() - 1);
            next++;
            if (!token().equals("along") && !token().equals("across")) {
                throw faulty(1);
            }
            door.across = token().equals("across");
            next++;
            door.length = number(1, 3);
            for (int pass = 2; pass <= 3; pass++) {
                for (int i = 0; i < door.length; i++) {
                    int x = door.across ? door.x : door.x + i;
                    int y = door.across ? door.y + i : door.y;
                    if (pass == 2 ? told.sign(x, y) != 'w' : told.doorOf(x, y) >= 0) {
                        throw faulty(pass);
                    }
                }
            }
            next++;
            door.first = number(0, 3);
            door.told.add(door.first);
            next++;
            while (token().equals("may")) {
                next++;
                if (!door.told.add(number(0, 3))) {
                    throw faulty(3);
                }
                next++;
            }
            if (token().equals("costs")) {
                next++;
                door.costs = number(1, 99);
                next++;
            }
            if (token().equals("whole")) {
                door.whole = true;
                next++;
            }
            told.doors.add(door);
        }

        int day() {
            try {
                tokenise(600);
                List<int[]> told = new ArrayList<>();
                while (!token().equals("END")) {
                    String first = token();
                    if (!List.of("go", "open", "shut", "wait").contains(first)) {
                        throw faulty(1);
                    }
                    if (told.size() == 60) {
                        throw faulty(4);
                    }
                    next++;
                    int what = -1;
                    if (first.equals("go")) {
                        what = SIDES.indexOf(token());
                        if (what < 0) {
                            throw faulty(1);
                        }
                        next++;
                    }
                    if (first.equals("open") || first.equals("shut")) {
                        told.add(new int[] {first.equals("open") ? 4 + 2 * doorNamed(now.house) : 5 + 2 * doorNamed(now.house), 0});
                    } else {
                        told.add(new int[] {what, number(1, 30)});
                    }
                    next++;
                    expect(";");
                }
                fault = 0;
                day = told;
                return told.size();
            } catch (Fault f) {
                fault = f.kind;
                return -1 - f.place;
            }
        }

        int ones;

        int sentence() {
            try {
                tokenise(200);
                ones = 0;
                readCond(1);
                if (!token().equals("END")) {
                    throw faulty(1);
                }
                fault = 0;
                sentence = tokens;
                return ones;
            } catch (Fault f) {
                fault = f.kind;
                return -1 - f.place;
            }
        }

        void readCond(int depth) {
            while (true) {
                readOne(depth);
                if (!token().equals("or") && !token().equals("and")) {
                    return;
                }
                next++;
            }
        }

        void readOne(int depth) {
            String first = token();
            if (!List.of("not", "(", "open", "fit", "at", "bites", "angle", "length", "sweeps", "may", "costs").contains(first)) {
                throw faulty(1);
            }
            if (ones == 20 || depth == 9) {
                throw faulty(4);
            }
            ones++;
            next++;
            if (first.equals("not")) {
                readOne(depth + 1);
            } else if (first.equals("(")) {
                readCond(depth + 1);
                expect(")");
            } else if (first.equals("bites")) {
                doorNamed(now.house);
                next++;
            } else if (!List.of("open", "fit", "at").contains(first)) {
                if (!token().matches("[<=>]")) {
                    throw faulty(1);
                }
                next++;
                number(0, 99);
                next++;
            }
        }

        int said() {
            if (sentence == null) {
                return -1;
            }
            int bits = 0;
            for (int d = 0; d < now.hang.length; d++) {
                tokens = sentence;
                next = 0;
                bits |= cond(d) ? 1 << d : 0;
            }
            return bits;
        }

        boolean cond(int d) {
            boolean good = all(d);
            while (tokens.get(next).equals("or")) {
                next++;
                boolean other = all(d);
                good = good || other;
            }
            return good;
        }

        boolean all(int d) {
            boolean good = one(d);
            while (tokens.get(next).equals("and")) {
                next++;
                boolean other = one(d);
                good = good && other;
            }
            return good;
        }

        boolean one(int d) {
            String first = tokens.get(next++);
            Door door = now.house.doors.get(d);
            if (first.equals("not")) {
                return !one(d);
            }
            if (first.equals("(")) {
                boolean good = cond(d);
                next++;
                return good;
            }
            if (first.equals("open")) {
                return now.angle[d] > 0;
            }
            if (first.equals("fit")) {
                return now.house.fit(d, now.hang[d]);
            }
            if (first.equals("at")) {
                return now.at(d);
            }
            if (first.equals("bites")) {
                int e = now.house.find(tokens.get(next++));
                return e != d && now.house.shared(d, now.hang[d], e, now.hang[e]) > 0;
            }
            int fits = 0;
            for (int h : door.told) {
                fits += now.house.fit(d, h) ? 1 : 0;
            }
            int measure = first.equals("angle") ? now.angle[d] : first.equals("length") ? door.length
                : first.equals("sweeps") ? now.house.swept(d, now.hang[d]).size() : first.equals("may") ? fits : door.costs;
            String sign = tokens.get(next++);
            int n = Integer.parseInt(tokens.get(next++));
            return sign.equals("<") ? measure < n : sign.equals("=") ? measure == n : measure > n;
        }

        // ---- asking

        boolean has(int d) {
            return d >= 0 && d < now.hang.length;
        }

        boolean has(int d, int h) {
            return has(d) && h >= 0 && h <= 3;
        }

        int cell(int x, int y) {
            int d = now.house.doorOf(x, y);
            return d >= 0 ? 10 + d : "fwt".indexOf(now.house.sign(x, y));
        }

        int door(int d, int what) {
            if (!has(d) || what < 0 || what > 8) {
                return -77;
            }
            Door door = now.house.doors.get(d);
            int bits = 0;
            for (int h : door.told) {
                bits += 1 << h;
            }
            return new int[] {door.x, door.y, door.across ? 1 : 0, door.length, now.hang[d], now.angle[d], bits, door.costs,
                door.whole ? 1 : 0}[what];
        }

        int leaf(int d, int h, int angle, int k) {
            if (!has(d, h) || angle < 0 || angle > 2) {
                return -1;
            }
            List<Integer> cells = new ArrayList<>();
            for (int cell : now.house.leaf(d, h, angle)) {
                int x = House.keyX(cell);
                int y = House.keyY(cell);
                if (x >= 0 && x < 10 && y >= 0 && y < 10) {
                    cells.add(10 * y + x);
                }
            }
            return k < 0 || k >= cells.size() ? -1 : cells.get(k);
        }

        int can(int d, int h) {
            return !has(d, h) ? -1 : 1 + (now.house.can(d, h, 1) ? 2 : 0) + (now.house.can(d, h, 2) ? 4 : 0);
        }

        int fit(int d, int h) {
            return !has(d, h) ? -1 : now.house.fit(d, h) ? 1 : 0;
        }

        int bites(int d, int h, int e, int g) {
            return !has(d, h) || !has(e, g) || d == e ? -1 : now.house.shared(d, h, e, g);
        }

        int clashes() {
            return clashes(now.hang);
        }

        int clashes(int[] hang) {
            int pairs = 0;
            for (int d = 0; d < hang.length; d++) {
                for (int e = d + 1; e < hang.length; e++) {
                    pairs += now.house.shared(d, hang[d], e, hang[e]) > 0 ? 1 : 0;
                }
            }
            return pairs;
        }

        /** All ways for the doors of the set to be hung well, the first ones first; -1 for doors not of the set. */
        House waysOf;
        int waysSet;
        List<int[]> waysBefore;

        List<int[]> allWays(int set) {
            if (waysOf != now.house || waysSet != set) {
                waysOf = now.house;
                waysSet = set;
                waysBefore = new ArrayList<>();
                extend(new int[now.hang.length], 0, set, waysBefore);
            }
            return waysBefore;
        }

        void extend(int[] hang, int d, int set, List<int[]> ways) {
            if (d == hang.length) {
                ways.add(hang.clone());
                return;
            }
            if ((set >> d & 1) == 0) {
                hang[d] = -1;
                extend(hang, d + 1, set, ways);
                return;
            }
            for (int h : now.house.doors.get(d).told) {
                hang[d] = h;
                boolean good = now.house.fit(d, h);
                for (int e = 0; e < d; e++) {
                    good = good && (hang[e] < 0 || now.house.shared(d, h, e, hang[e]) == 0);
                }
                if (good) {
                    extend(hang, d + 1, set, ways);
                }
            }
        }

        int costOf(int[] hang) {
            int cost = 0;
            for (int d = 0; d < hang.length; d++) {
                cost += hang[d] == now.hang[d] ? 0 : now.house.doors.get(d).costs;
            }
            return cost;
        }

        int changesOf(int[] hang) {
            int changes = 0;
            for (int d = 0; d < hang.length; d++) {
                changes += hang[d] == now.hang[d] ? 0 : 1;
            }
            return changes;
        }

        int[] bestOf(boolean cheap) {
            int[] best = null;
            for (int[] hang : allWays((1 << now.hang.length) - 1)) {
                if (best == null) {
                    best = hang;
                    continue;
                }
                int byCost = Integer.compare(costOf(hang), costOf(best));
                int byChanges = Integer.compare(changesOf(hang), changesOf(best));
                int by = cheap ? (byCost != 0 ? byCost : byChanges) : (byChanges != 0 ? byChanges : byCost);
                best = by < 0 ? hang : best;
            }
            return best;
        }

        int cheapest() {
            int[] best = bestOf(true);
            return best == null ? -1 : costOf(best);
        }

        int hung(int d) {
            int[] best = bestOf(true);
            return best == null || !has(d) ? -1 : best[d];
        }

        int fewest() {
            int[] best = bestOf(false);
            return best == null ? -1 : changesOf(best);
        }

        int fewestBy(int d) {
            int[] best = bestOf(false);
            return best == null || !has(d) ? -1 : best[d];
        }

        int ways() {
            return allWays((1 << now.hang.length) - 1).size();
        }

        int stuck() {
            int all = 1 << now.hang.length;
            if (!allWays(all - 1).isEmpty()) {
                return 0;
            }
            for (int size = 1; ; size++) {
                for (int set = 0; set < all; set++) {
                    if (Integer.bitCount(set) == size && allWays(set).isEmpty()) {
                        return set;
                    }
                }
            }
        }

        int forces(int d, int h, int what) {
            if (!has(d, h) || what < 0 || what > 2 || !now.house.doors.get(d).told.contains(h) || !now.house.fit(d, h)) {
                return -2;
            }
            Map<Integer, List<Integer>> left = new TreeMap<>();
            for (int e = 0; e < now.hang.length; e++) {
                if (e != d) {
                    left.put(e, new ArrayList<>());
                    for (int g : now.house.doors.get(e).told) {
                        if (now.house.fit(e, g) && now.house.shared(d, h, e, g) == 0) {
                            left.get(e).add(g);
                        }
                    }
                }
            }
            forced = new ArrayList<>();
            Set<Integer> already = new HashSet<>();
            int dead = -1;
            boolean more = true;
            while (more) {
                more = false;
                for (int e : left.keySet()) {
                    if (dead < 0 && left.get(e).isEmpty()) {
                        dead = e;
                    }
                }
                if (dead >= 0) {
                    break;
                }
                for (int e : left.keySet()) {
                    if (left.get(e).size() == 1 && already.add(e)) {
                        int g = left.get(e).get(0);
                        forced.add(new int[] {e, g});
                        for (int o : left.keySet()) {
                            if (o != e) {
                                left.get(o).removeIf(k -> now.house.shared(e, g, o, k) > 0);
                            }
                        }
                        more = true;
                        break;
                    }
                }
            }
            int bits = 0;
            for (int[] f : forced) {
                bits |= 1 << f[0];
            }
            return what == 0 ? forced.size() : what == 1 ? bits : dead;
        }

        int forced(int e) {
            for (int[] f : forced) {
                if (f[0] == e) {
                    return f[1];
                }
            }
            return -1;
        }

        int forcedAt(int i) {
            return i < 0 || i >= forced.size() ? -1 : forced.get(i)[0];
        }

        int joiner() {
            int[] best = bestOf(true);
            if (best == null) {
                return -1;
            }
            List<Integer> changes = new ArrayList<>();
            for (int d = 0; d < best.length; d++) {
                if (best[d] != now.hang[d]) {
                    changes.add(d);
                }
            }
            leastPeak = Integer.MAX_VALUE;
            orders(new ArrayList<>(), changes, now.hang.clone(), best, clashes());
            return leastPeak;
        }

        int leastPeak;

        void orders(List<Integer> before, List<Integer> changes, int[] hang, int[] best, int peak) {
            if (before.size() == changes.size()) {
                if (peak < leastPeak) {
                    leastPeak = peak;
                    order = new ArrayList<>(before);
                }
                return;
            }
            for (int d : changes) {
                if (!before.contains(d) && peak < leastPeak) {
                    before.add(d);
                    int was = hang[d];
                    hang[d] = best[d];
                    orders(before, changes, hang, best, Math.max(peak, clashes(hang)));
                    hang[d] = was;
                    before.remove(before.size() - 1);
                }
            }
        }

        int joinerAt(int i) {
            return i < 0 || i >= order.size() ? -1 : order.get(i);
        }

        // ---- doing

        boolean rehang(int d, int h) {
            if (!has(d, h) || !now.house.doors.get(d).told.contains(h) || !now.house.fit(d, h) || now.angle[d] != 0) {
                return false;
            }
            now.hang[d] = h;
            return true;
        }

        boolean stand(int x, int y) {
            if (!now.house.open(x, y) || now.leafOn(x, y)) {
                return false;
            }
            now.stands = true;
            now.x = x;
            now.y = y;
            return true;
        }

        int place() {
            return now.stands ? 10 * now.y + now.x : -1;
        }

        int does(int act) {
            if (act < -1 || act > 3 + 2 * now.hang.length) {
                return -2;
            }
            int knock = now.knock(act);
            if (knock == 0) {
                now.perform(act);
                minutes++;
            }
            return knock;
        }

        int follow(Now scene) {
            report = new int[5];
            int knocked = -1;
            for (int i = 0; day != null && i < day.size() && knocked < 0; i++) {
                int what = day.get(i)[0];
                int times = day.get(i)[1];
                int d = what / 2 - 2;
                int aim = 0;
                if (what >= 4) {
                    aim = what % 2 == 1 ? 0 : scene.house.can(d, scene.hang[d], 2) ? 2 : 1;
                    times = Math.max(1, Math.abs(aim - scene.angle[d]));
                }
                for (int m = 0; m < times && knocked < 0; m++) {
                    boolean so = what >= 4 && scene.angle[d] == aim;
                    int knock = so && m > 0 ? 0 : scene.knock(what);
                    if (so && m == 0 && knock != 1 && knock != 4) {
                        knock = 5;
                    }
                    if (knock != 0) {
                        report[0] = knock;
                        knocked = i;
                    } else {
                        report[3] += scene.perform(so ? -1 : what);
                        report[1]++;
                    }
                }
            }
            report[2] = scene.stands ? 10 * scene.y + scene.x : -1;
            for (int d = 0; d < scene.angle.length; d++) {
                report[4] += scene.angle[d] > 0 ? 1 << d : 0;
            }
            return knocked;
        }

        int judge() {
            return follow(now.copy());
        }

        int live() {
            int knocked = follow(now);
            minutes += report[1];
            return knocked;
        }

        int judged(int what) {
            return report == null || what < 0 || what > 4 ? -2 : report[what];
        }

        /** Level by level, of each state the least way in the order of the acts. */
        Map<String, List<Integer>> cellsReached(int aimX, int aimY) {
            Map<String, List<Integer>> cells = new LinkedHashMap<>();
            Map<String, Now> level = new LinkedHashMap<>();
            Map<String, List<Integer>> paths = new HashMap<>();
            Set<String> seen = new HashSet<>();
            level.put(now.state(), now.copy());
            paths.put(now.state(), new ArrayList<>());
            seen.add(now.state());
            while (!level.isEmpty()) {
                Map<String, Now> nextLevel = new LinkedHashMap<>();
                Map<String, List<Integer>> nextPaths = new HashMap<>();
                for (String state : level.keySet()) {
                    String cell = level.get(state).x + "," + level.get(state).y;
                    if (!cells.containsKey(cell) || cells.get(cell).size() == paths.get(state).size()
                        && before(paths.get(state), cells.get(cell))) {
                        cells.put(cell, paths.get(state));
                    }
                }
                if (cells.containsKey(aimX + "," + aimY)) {
                    return cells;
                }
                for (String state : level.keySet()) {
                    for (int act = 0; act < 4 + 2 * now.hang.length; act++) {
                        Now then = level.get(state).copy();
                        if (then.knock(act) != 0) {
                            continue;
                        }
                        then.perform(act);
                        if (seen.contains(then.state())) {
                            continue;
                        }
                        List<Integer> path = new ArrayList<>(paths.get(state));
                        path.add(act);
                        if (!nextLevel.containsKey(then.state()) || before(path, nextPaths.get(then.state()))) {
                            nextLevel.put(then.state(), then);
                            nextPaths.put(then.state(), path);
                        }
                    }
                }
                seen.addAll(nextLevel.keySet());
                level = nextLevel;
                paths = nextPaths;
            }
            return cells;
        }

        boolean before(List<Integer> a, List<Integer> b) {
            for (int i = 0; i < a.size(); i++) {
                if (!a.get(i).equals(b.get(i))) {
                    return a.get(i) < b.get(i);
                }
            }
            return false;
        }

        int way(int x, int y) {
            if (!now.house.open(x, y) || !now.stands || now.hang.length > 5) {
                return -2;
            }
            List<Integer> found = cellsReached(x, y).get(x + "," + y);
            if (found == null) {
                return -1;
            }
            way = found;
            return found.size();
        }

        int wayAt(int i) {
            return way == null || i < 0 || i >= way.size() ? -1 : way.get(i);
        }

        int walk() {
            int done = 0;
            while (way != null && done < way.size() && does(way.get(done)) == 0) {
                done++;
            }
            return done;
        }

        int reach(int what) {
            if (what != 0 && what != 1 || !now.stands) {
                return -1;
            }
            if (what == 1) {
                return now.hang.length > 5 ? -2 : cellsReached(-5, -5).size();
            }
            Set<Integer> cells = new HashSet<>(Set.of(House.key(now.x, now.y)));
            boolean more = true;
            while (more) {
                more = false;
                for (int cell : new ArrayList<>(cells)) {
                    int x = House.keyX(cell);
                    int y = House.keyY(cell);
                    for (int[] to : new int[][] {{x, y - 1}, {x, y + 1}, {x - 1, y}, {x + 1, y}}) {
                        if (now.house.open(to[0], to[1]) && !now.leafOn(to[0], to[1])) {
                            more |= cells.add(House.key(to[0], to[1]));
                        }
                    }
                }
            }
            return cells.size();
        }

        int quiet() {
            Now scene = now.copy();
            int waited = 1;
            while (scene.perform(-1) > 0) {
                waited++;
            }
            return waited;
        }

        int stride() {
            if (now.house.bed < 0 || !now.stands || now.hang.length > 5) {
                return -2;
            }
            int x = now.house.bed % 10;
            int y = now.house.bed / 10;
            List<Integer> found = cellsReached(x, y).get(x + "," + y);
            return found == null ? -1 : found.size();
        }

        boolean image(int k) {
            if (k != 0 && k != 1) {
                return false;
            }
            keptNow[k] = now.copy();
            keptDay.set(k, day);
            keptSentence.set(k, sentence);
            return true;
        }

        boolean restore(int k) {
            if (k != 0 && k != 1 || keptNow[k] == null) {
                return false;
            }
            now = keptNow[k].copy();
            day = keptDay.get(k);
            sentence = keptSentence.get(k);
            return true;
        }

        int count(int what) {
            switch (what) {
                case 0:
                    return now.house.columns();
                case 1:
                    return now.house.rows.size();
                case 2:
                    return now.house.doors.size();
                case 3:
                    return now.house.draughts.size();
                case 4:
                    return day == null ? 0 : day.size();
                case 5:
                    return tape.length();
                default:
                    return -1;
            }
        }
    }
}
