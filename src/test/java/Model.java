import java.util.ArrayList;
import java.util.Arrays;
import java.util.Comparator;
import java.util.HashSet;
import java.util.LinkedHashMap;
import java.util.List;
import java.util.Map;
import java.util.NoSuchElementException;

/** The document once more, written as plainly as the Java library allows, for random runs to compare with. */
public final class Model {
    private static final class Wall {
        char way;
        int measured;
        int length;
        int left;
        int right;
    }

    private record Obstacle(int wall, int from, int to, int low, int high) {
    }

    private record Kind(char body, int width, int doors, int shelves, int drawers) {
        int high() {
            return Map.of('b', 720, 'u', 600, 't', 2100).get(body);
        }

        int deep() {
            return Map.of('b', 560, 'u', 320, 't', 560).get(body);
        }

        int low() {
            return Map.of('b', 0, 'u', 1400, 't', 0).get(body);
        }

        int top() {
            return Map.of('b', 820, 'u', 2000, 't', 2100).get(body);
        }

        int doorHigh() {
            return high() - 4 - 180 * drawers;
        }

        int hinges() {
            return doorHigh() <= 900 ? 2 : doorHigh() <= 1600 ? 3 : 4;
        }
    }

    private record Part(char kind, int length, int width, int thick, int edges, int colour) {
        int area() {
            return length * width;
        }

        int edge() {
            return edges == 15 ? 2 * length + 2 * width : edges == 1 ? length : 0;
        }

        int weight() {
            return (int) ((long) length * width * thick * 7 / 10000);
        }
    }

    private record Hole(int along, int across, int wide) {
    }

    private static final class Module {
        Kind kind;
        int wall;
        int from;
        int colour;
        List<Part> cut = new ArrayList<>();

        int end() {
            return from + kind.width;
        }
    }

    private record Board(int colour, int thick, int length, int width, boolean offcut) {
        long area() {
            return (long) length * width;
        }
    }

    private static final class Strip {
        int wide;
        List<Integer> lengths = new ArrayList<>();

        int used() {
            return lengths.stream().mapToInt(Integer::intValue).sum() + 4 * (lengths.size() - 1);
        }
    }

    private static final class Opened {
        Board board;
        List<Strip> strips = new ArrayList<>();

        int used() {
            return strips.stream().mapToInt(s -> s.wide).sum() + 4 * (strips.size() - 1);
        }
    }

    private record Job(int colour, int hours, int due) {
    }

    private record Fault(int place, char letter) {
    }

    private final List<Wall> walls = new ArrayList<>();
    private final List<Obstacle> obstacles = new ArrayList<>();
    private final List<Kind> kinds = new ArrayList<>();
    private final List<Module> modules = new ArrayList<>();
    private final List<Job> jobs = new ArrayList<>();
    private final StringBuilder text = new StringBuilder();
    private List<Board> stock = new ArrayList<>();
    private List<Object[]> causes = List.of();
    private long came;
    private long dust;
    private long scrap;
    private int setup = 2;
    private final int[] rates = {2, 5, 9};

    public int addWall(char way, int length) {
        if ("ewns".indexOf(way) < 0 || length < 500 || length > 9999) {
            throw new IllegalArgumentException();
        }
        if (walls.size() == 6 || !modules.isEmpty()) {
            throw new IllegalStateException();
        }
        Wall wall = new Wall();
        wall.way = way;
        wall.measured = length;
        wall.length = length;
        walls.add(wall);
        return walls.size() - 1;
    }

    public int close() {
        if (walls.size() < 4 || !modules.isEmpty()) {
            throw new UnsupportedOperationException();
        }
        for (char way : "ewns".toCharArray()) {
            if (walls.stream().noneMatch(wall -> wall.way == way)) {
                throw new UnsupportedOperationException();
            }
        }
        Map<Wall, Integer> lengths = new LinkedHashMap<>();
        int most = 0;
        for (String pair : new String[] {"ew", "ns"}) {
            List<Wall> both = walls.stream().filter(wall -> pair.indexOf(wall.way) >= 0).toList();
            int more = both.stream().mapToInt(w -> w.way == pair.charAt(0) ? w.measured : -w.measured).sum();
            int left = Math.abs(more);
            for (int i = 0; i < both.size(); i++) {
                int share = (int) Math.ceil((double) left / (both.size() - i));
                boolean isTooLong = more > 0 == (both.get(i).way == pair.charAt(0));
                lengths.put(both.get(i), both.get(i).measured + (isTooLong ? -share : share));
                left -= share;
                most = Math.max(most, share);
            }
        }
        if (lengths.values().stream().anyMatch(length -> length <= 0)) {
            throw new UnsupportedOperationException();
        }
        lengths.forEach((wall, length) -> wall.length = length);
        return most;
    }

    public int lengthOf(int wall) {
        return at(walls, wall).length;
    }

    private static <T> T at(List<T> list, int index) {
        if (index < 0 || index >= list.size()) {
            throw new IndexOutOfBoundsException();
        }
        return list.get(index);
    }

    public boolean isClosedRoom() {
        int x = 0;
        int y = 0;
        for (Wall wall : walls) {
            x += wall.way == 'e' ? wall.length : wall.way == 'w' ? -wall.length : 0;
            y += wall.way == 'n' ? wall.length : wall.way == 's' ? -wall.length : 0;
        }
        return !walls.isEmpty() && x == 0 && y == 0;
    }

    private static void within(int number, int least, int most) {
        if (number < least || number > most) {
            throw new IllegalArgumentException();
        }
    }

    public int setOff(int wall, int left, int right) {
        Wall told = at(walls, wall);
        within(left, 0, 60);
        within(right, 0, 60);
        int before = told.left * 100 + told.right;
        told.left = left;
        told.right = right;
        return before;
    }

    public int obstacle(int wall, int from, int to, int low, int high) {
        at(walls, wall);
        within(from, 0, 9998);
        within(to, from + 1, 9999);
        within(low, 0, 2999);
        within(high, low + 1, 3000);
        if (obstacles.size() == 8) {
            throw new IllegalStateException();
        }
        obstacles.add(new Obstacle(wall, from, to, low, high));
        return obstacles.size() - 1;
    }

    public int type(char sign) {
        if (text.length() == 30) {
            throw new IllegalStateException();
        }
        text.append(sign);
        return text.length();
    }

    public int wipe() {
        int before = text.length();
        text.setLength(0);
        return before;
    }

    /** A Fault or a Kind. */
    private Object read() {
        String s = text.toString();
        int i = 1;
        if (s.isEmpty() || "but@".indexOf(s.charAt(0)) < 0) {
            return new Fault(0, 'k');
        }
        Kind base = new Kind(s.charAt(0), 600, 0, 0, 0);
        if (s.charAt(0) == '@') {
            if (s.length() < 2 || !s.substring(1, 2).matches("[0-7]") || s.charAt(1) - '0' >= kinds.size()) {
                return new Fault(1, 't');
            }
            base = kinds.get(s.charAt(1) - '0');
            i = 2;
        }
        int[] told = {base.width, base.doors, base.shelves, base.drawers};
        while (i < s.length()) {
            int item = "wdsr".indexOf(s.charAt(i));
            if (item < 0) {
                return new Fault(i, 'i');
            }
            int end = i + 1;
            while (end < s.length() && end - i <= (item == 0 ? 4 : 1) && s.substring(end, end + 1).matches("[0-9]")) {
                end++;
            }
            if (end == i + 1) {
                return new Fault(end, 'n');
            }
            told[item] = Integer.parseInt(s.substring(i + 1, end));
            i = end;
        }
        Kind made = new Kind(base.body, told[0], told[1], told[2], told[3]);
        boolean isDoorTooLow = made.doors == 0 ? made.doorHigh() < 0 : made.doorHigh() < 200;
        if (made.width < 150 || made.width > 1200 || made.doors > 2 || isDoorTooLow) {
            return new Fault(s.length(), 'f');
        }
        return made;
    }

    public int fault() {
        if (read() instanceof Fault fault) {
            return fault.place;
        }
        throw new NoSuchElementException();
    }

    public char faultKind() {
        if (read() instanceof Fault fault) {
            return fault.letter;
        }
        throw new NoSuchElementException();
    }

    public int addType() {
        if (!(read() instanceof Kind kind)) {
            throw new IllegalArgumentException();
        }
        if (kinds.size() == 8) {
            throw new IllegalStateException();
        }
        kinds.add(kind);
        text.setLength(0);
        return kinds.size() - 1;
    }

    public int told(int type, char what) {
        Kind kind = at(kinds, type);
        Integer told = Map.of('w', kind.width, 'd', kind.doors, 's', kind.shelves, 'r', kind.drawers, 'h',
            kind.high()).get(what);
        if (told == null) {
            throw new IllegalArgumentException();
        }
        return told;
    }

    private static boolean cross(int from, int to, int otherFrom, int otherTo) {
        return Math.max(from, otherFrom) < Math.min(to, otherTo);
    }

    private static boolean sharesHeight(Module one, Module other) {
        return cross(one.kind.low(), one.kind.top(), other.kind.low(), other.kind.top());
    }

    private static boolean isInWay(Module one, Module other) {
        return one.wall == other.wall && cross(one.from, one.end(), other.from, other.end())
            && sharesHeight(one, other);
    }

    private boolean meet(Module one, Module other) {
        if (walls.size() < 2 || (one.wall + 1) % walls.size() != other.wall || !sharesHeight(one, other)) {
            return false;
        }
        int left = walls.get(one.wall).length - one.end();
        boolean isNear = left < other.kind.deep() + 60 && other.from < one.kind.deep() + 60;
        boolean doesFirst = one.kind.doors > 0 && left < one.kind.width / one.kind.doors;
        boolean doesOther = other.kind.doors > 0 && other.from < other.kind.width / other.kind.doors;
        return isNear && (doesFirst || doesOther);
    }

    private List<Object[]> causesOf(Module module, Module self) {
        Wall wall = walls.get(module.wall);
        int beyond = Math.max(wall.left - module.from, module.end() - (wall.length - wall.right));
        if (beyond > 0) {
            return List.<Object[]>of(new Object[] {'e', beyond});
        }
        for (Module other : modules) {
            if (other != self && isInWay(module, other)) {
                int height = Math.max(module.kind.low(), other.kind.low());
                return List.of(new Object[] {'o', modules.indexOf(other)}, new Object[] {'h', height});
            }
        }
        for (int i = 0; i < obstacles.size(); i++) {
            Obstacle o = obstacles.get(i);
            boolean isAside = o.wall == module.wall && cross(o.from, o.to, module.from, module.end());
            if (isAside && cross(o.low, o.high, module.kind.low(), module.kind.top())) {
                return List.of(new Object[] {'p', i}, new Object[] {'h', Math.max(o.low, module.kind.low())});
            }
        }
        for (Module other : modules) {
            if (other != self && (meet(module, other) || meet(other, module))) {
                return List.<Object[]>of(new Object[] {'d', modules.indexOf(other)});
            }
        }
        return List.of();
    }

    private Module trial(Kind kind, int wall, int from, Module self) {
        Module trial = new Module();
        trial.kind = kind;
        trial.wall = wall;
        trial.from = from;
        List<Object[]> found = causesOf(trial, self);
        if (!found.isEmpty()) {
            causes = found;
            throw new UnsupportedOperationException();
        }
        return trial;
    }

    public int place(int type, int wall, int from, int colour) {
        Kind kind = at(kinds, type);
        at(walls, wall);
        within(from, 0, 9999);
        within(colour, 0, 2);
        if (modules.size() == 16) {
            throw new IllegalStateException();
        }
        Module placed = trial(kind, wall, from, null);
        placed.colour = colour;
        modules.add(placed);
        return modules.size() - 1;
    }

    public int shift(int module, int from) {
        Module shifted = at(modules, module);
        within(from, 0, 9999);
        trial(shifted.kind, shifted.wall, from, shifted);
        int before = shifted.from;
        shifted.from = from;
        return before;
    }

    public int change(int module, int type) {
        Module changed = at(modules, module);
        Kind kind = at(kinds, type);
        trial(kind, changed.wall, changed.from, changed);
        changed.kind = kind;
        List<Part> free = new ArrayList<>(partsOf(changed));
        List<Part> kept = new ArrayList<>();
        for (Part part : changed.cut) {
            if (free.remove(part)) {
                kept.add(part);
            } else {
                scrap += part.area();
            }
        }
        int lost = changed.cut.size() - kept.size();
        changed.cut = kept;
        return lost;
    }

    public char clash(int depth) {
        if (depth < 0 || depth >= causes.size()) {
            throw new NoSuchElementException();
        }
        return (Character) causes.get(depth)[0];
    }

    public int clashNumber(int depth) {
        if (depth < 0 || depth >= causes.size()) {
            throw new NoSuchElementException();
        }
        return (Integer) causes.get(depth)[1];
    }

    public int from(int module) {
        return at(modules, module).from;
    }

    private boolean[] taken(int wall, boolean isUpper) {
        boolean[] taken = new boolean[at(walls, wall).length];
        for (Module module : modules) {
            if (module.wall == wall && module.kind.body != (isUpper ? 'b' : 'u')) {
                Arrays.fill(taken, module.from, module.end(), true);
            }
        }
        return taken;
    }

    public int free(int wall, boolean isUpper) {
        int free = 0;
        for (boolean is : taken(wall, isUpper)) {
            free += is ? 0 : 1;
        }
        return free;
    }

    public int widest(int wall, boolean isUpper) {
        int row = 0;
        int most = 0;
        for (boolean is : taken(wall, isUpper)) {
            row = is ? 0 : row + 1;
            most = Math.max(most, row);
        }
        return most;
    }

    private static List<Part> partsOf(Module module) {
        Kind k = module.kind;
        List<Part> parts = new ArrayList<>();
        parts.add(new Part('s', k.high(), k.deep(), 18, 1, 0));
        parts.add(new Part('s', k.high(), k.deep(), 18, 1, 0));
        parts.add(new Part('b', k.width - 36, k.deep(), 18, 1, 0));
        parts.add(new Part('t', k.width - 36, k.body == 'b' ? 100 : k.deep(), 18, 1, 0));
        parts.add(new Part('k', k.high() - 4, k.width - 4, 8, 0, 0));
        for (int i = 0; i < k.shelves; i++) {
            parts.add(new Part('h', k.width - 36 - 2, k.deep() - 20, 18, 1, 0));
        }
        for (int i = 0; i < k.doors; i++) {
            parts.add(new Part('d', k.doorHigh(), k.width / k.doors - 3, 18, 15, module.colour));
        }
        for (int i = 0; i < k.drawers; i++) {
            parts.add(new Part('f', 176, k.width - 4, 18, 15, module.colour));
        }
        return parts;
    }

    public int parts(int module) {
        return partsOf(at(modules, module)).size();
    }

    private Part part(int module, int part) {
        return at(partsOf(at(modules, module)), part);
    }

    public char kindOf(int module, int part) {
        return part(module, part).kind;
    }

    public int size(int module, int part, char what) {
        Part asked = part(module, part);
        Integer size = Map.of('l', asked.length, 'w', asked.width, 't', asked.thick, 'e', asked.edges).get(what);
        if (size == null) {
            throw new IllegalArgumentException();
        }
        return size;
    }

    public int weight(int module, int part) {
        return part(module, part).weight();
    }

    public int hinges(int module) {
        Kind kind = at(modules, module).kind;
        return kind.doors * kind.hinges();
    }

    private List<Hole> holesOf(int module, int part) {
        Kind k = at(modules, module).kind;
        char kind = part(module, part).kind;
        List<Hole> holes = new ArrayList<>();
        List<Integer> hinges = new ArrayList<>();
        for (int i = 0; i < k.hinges(); i++) {
            hinges.add(80 + (k.doorHigh() - 160) * i / (k.hinges() - 1));
        }
        if (kind == 'd') {
            hinges.forEach(along -> holes.add(new Hole(along, 22, 35)));
        }
        if (kind != 's') {
            return holes;
        }
        for (int i = 1; i <= k.shelves; i++) {
            int along = k.high() * i / (k.shelves + 1);
            along -= along % 32;
            holes.add(new Hole(along, 37, 5));
            holes.add(new Hole(along, k.deep() - 37, 5));
        }
        if (k.doors > part) {
            hinges.forEach(along -> holes.add(new Hole(along, 37, 10)));
        }
        for (int i = 0; i < k.drawers; i++) {
            holes.add(new Hole(k.high() - 90 - 180 * i, 100, 8));
        }
        return holes;
    }

    public int holes(int module, int part) {
        return holesOf(module, part).size();
    }

    public int hole(int module, int part, int hole, char what) {
        Hole asked = at(holesOf(module, part), hole);
        Integer told = Map.of('a', asked.along, 'c', asked.across, 'w', asked.wide).get(what);
        if (told == null) {
            throw new IllegalArgumentException();
        }
        return told;
    }

    public int drills(int module, int part) {
        return (int) holesOf(module, part).stream().map(Hole::wide).distinct().count();
    }

    public int clamp(int module, int part, boolean isSecond) {
        int length = part(module, part).length;
        List<Integer> places = new ArrayList<>();
        for (int place = 50; place <= length - 50; place += 50) {
            int at = place;
            boolean isAway = holesOf(module, part).stream().filter(hole -> hole.across <= 60)
                .allMatch(hole -> Math.abs(hole.along - at) >= 40 + hole.wide / 2);
            if (isAway && (places.isEmpty() || places.size() == 1 && place - places.get(0) >= length / 2)) {
                places.add(place);
            }
        }
        if (places.size() < 2) {
            throw new NoSuchElementException();
        }
        return places.get(isSecond ? 1 : 0);
    }

    public int addBoards(int colour, int thick, int length, int width, int many) {
        within(colour, 0, 2);
        if (thick != 8 && thick != 18) {
            throw new IllegalArgumentException();
        }
        within(length, 300, 2800);
        within(width, 300, 2100);
        within(many, 1, 20);
        if (stock.size() + many > 60) {
            throw new IllegalStateException();
        }
        for (int i = 0; i < many; i++) {
            stock.add(new Board(colour, thick, length, width, false));
            came += (long) length * width;
        }
        return stock.size();
    }

    public int boards() {
        return stock.size();
    }

    public int offcuts() {
        return (int) stock.stream().filter(Board::offcut).count();
    }

    public int board(int board, char what) {
        Board asked = at(stock, board);
        Integer told = Map.of('l', asked.length, 'w', asked.width, 't', asked.thick, 'c', asked.colour).get(what);
        if (told == null) {
            throw new IllegalArgumentException();
        }
        return told;
    }

    private List<Part> uncutOf(Module module) {
        List<Part> left = new ArrayList<>(partsOf(module));
        module.cut.forEach(left::remove);
        return left;
    }

    public int uncut(int module) {
        return uncutOf(at(modules, module)).size();
    }

    public int cut(int module) {
        Module sawn = at(modules, module);
        List<Part> todo = uncutOf(sawn);
        if (todo.isEmpty()) {
            throw new NoSuchElementException();
        }
        Map<String, List<Part>> groups = new LinkedHashMap<>();
        todo.forEach(p -> groups.computeIfAbsent(p.thick + "/" + p.colour, x -> new ArrayList<>()).add(p));
        List<Board> left = new ArrayList<>(stock);
        List<Opened> opened = new ArrayList<>();
        for (List<Part> group : groups.values()) {
            List<Opened> ofGroup = new ArrayList<>();
            for (int[] piece : piecesOf(group)) {
                if (ofGroup.stream().noneMatch(o -> lies(o, piece))) {
                    Opened next = open(left, group.get(0), piece);
                    ofGroup.add(next);
                    if (!lies(next, piece)) {
                        throw new AssertionError();
                    }
                }
            }
            opened.addAll(ofGroup);
        }
        long partArea = todo.stream().mapToLong(Part::area).sum();
        dust += opened.stream().mapToLong(o -> o.board.area()).sum() - partArea;
        for (Opened o : opened) {
            for (Strip strip : o.strips) {
                keep(left, o.board, o.board.length - strip.used() - 4, strip.wide);
            }
            keep(left, o.board, o.board.length, o.board.width - o.used() - 4);
        }
        stock = left;
        sawn.cut.addAll(todo);
        return opened.size();
    }

    private void keep(List<Board> left, Board of, int length, int width) {
        if (length >= 300 && width >= 300 && left.size() < 60) {
            left.add(new Board(of.colour, of.thick, length, width, true));
            dust -= (long) length * width;
        }
    }

    private static List<int[]> piecesOf(List<Part> group) {
        List<int[]> pieces = new ArrayList<>();
        for (int i = 0; i < group.size(); i++) {
            Part part = group.get(i);
            boolean hasGrain = "sdf".indexOf(part.kind) >= 0;
            if (part.kind == 'd' && i + 1 < group.size() && group.get(i + 1).equals(part)) {
                pieces.add(new int[] {part.length, part.width + 4 + part.width});
                i++;
            } else if (hasGrain) {
                pieces.add(new int[] {part.length, part.width});
            } else {
                int longer = Math.max(part.length, part.width);
                pieces.add(new int[] {longer, part.length + part.width - longer});
            }
        }
        Comparator<int[]> byWidth = Comparator.comparing(piece -> -piece[1]);
        pieces.sort(byWidth.thenComparing(piece -> -piece[0]));
        return pieces;
    }

    private static boolean lies(Opened opened, int[] piece) {
        for (Strip strip : opened.strips) {
            if (strip.wide >= piece[1] && strip.used() + 4 + piece[0] <= opened.board.length) {
                strip.lengths.add(piece[0]);
                return true;
            }
        }
        int begin = opened.strips.isEmpty() ? 0 : opened.used() + 4;
        if (begin + piece[1] > opened.board.width || piece[0] > opened.board.length) {
            return false;
        }
        Strip strip = new Strip();
        strip.wide = piece[1];
        strip.lengths.add(piece[0]);
        opened.strips.add(strip);
        return true;
    }

    private static Opened open(List<Board> left, Part part, int[] piece) {
        List<Board> fit = new ArrayList<>(left.stream().filter(b -> b.thick == part.thick && b.colour == part.colour
            && b.length >= piece[0] && b.width >= piece[1]).toList());
        fit.sort(Comparator.comparing((Board b) -> b.offcut ? 0 : 1).thenComparing(b -> b.offcut ? b.area() : 0));
        if (fit.isEmpty()) {
            throw new UnsupportedOperationException();
        }
        for (int i = 0; i < left.size(); i++) {
            if (left.get(i) == fit.get(0)) {
                left.remove(i);
                break;
            }
        }
        Opened opened = new Opened();
        opened.board = fit.get(0);
        return opened;
    }

    public int lose(int module, int part) {
        Module losing = at(modules, module);
        Part lost = part(module, part);
        if (!losing.cut.remove(lost)) {
            throw new UnsupportedOperationException();
        }
        scrap += lost.area();
        return losing.cut.size();
    }

    public int edged(int colour) {
        within(colour, 0, 2);
        return modules.stream().flatMap(m -> m.cut.stream()).filter(p -> p.colour == colour)
            .mapToInt(Part::edge).sum();
    }

    public int setRate(int colour, int rate) {
        within(colour, 0, 2);
        within(rate, 0, 100);
        int before = rates[colour];
        rates[colour] = rate;
        return before;
    }

    public int price(int module) {
        int sum = hinges(module) * 3 + modules.get(module).kind.drawers * 11;
        for (Part part : partsOf(modules.get(module))) {
            sum += rates[part.colour] * (part.area() / 1000) / 100;
            sum += (part.colour == 0 ? part.edge() : part.edge() * 2) / 1000;
        }
        return sum;
    }

    private int[] packing(Module module, int most) {
        within(most, 1, 99999);
        List<Part> parts = partsOf(module);
        List<Integer> order = new ArrayList<>();
        for (int i = 0; i < parts.size(); i++) {
            order.add(i);
        }
        order.sort(Comparator.comparing(i -> -parts.get(i).weight()));
        List<Integer> loads = new ArrayList<>();
        int[] packs = new int[parts.size()];
        for (int i : order) {
            int weight = parts.get(i).weight();
            if (weight > most) {
                throw new UnsupportedOperationException();
            }
            int pack = 0;
            while (pack < loads.size() && loads.get(pack) + weight > most) {
                pack++;
            }
            if (pack == loads.size()) {
                loads.add(0);
            }
            loads.set(pack, loads.get(pack) + weight);
            packs[i] = pack;
        }
        return packs;
    }

    public int packs(int module, int most) {
        return Arrays.stream(packing(at(modules, module), most)).max().orElse(-1) + 1;
    }

    public int packOf(int module, int most, int part) {
        part(module, part);
        return packing(modules.get(module), most)[part];
    }

    public int stepAt(int module, int index) {
        List<Part> parts = partsOf(at(modules, module));
        at(parts, index);
        Map<Character, String> behind = Map.of('s', "", 'b', "s", 't', "sb", 'k', "sbt", 'h', "k", 'f', "k", 'd', "kh");
        List<Integer> order = new ArrayList<>();
        while (order.size() < parts.size()) {
            for (int i = 0; i < parts.size(); i++) {
                String needs = behind.get(parts.get(i).kind);
                boolean canBe = !order.contains(i);
                for (int k = 0; k < parts.size(); k++) {
                    canBe &= needs.indexOf(parts.get(k).kind) < 0 || order.contains(k);
                }
                if (canBe) {
                    order.add(i);
                    break;
                }
            }
        }
        return order.get(index);
    }

    public int job(int colour, int hours, int due) {
        within(colour, 0, 2);
        within(hours, 1, 99);
        within(due, 0, 999);
        if (jobs.size() == 6) {
            throw new IllegalStateException();
        }
        jobs.add(new Job(colour, hours, due));
        return jobs.size() - 1;
    }

    public int setSetup(int hours) {
        within(hours, 0, 99);
        int before = setup;
        setup = hours;
        return before;
    }

    private int lateOf(List<Integer> order) {
        int hour = 0;
        int late = 0;
        for (int i = 0; i < order.size(); i++) {
            Job job = jobs.get(order.get(i));
            boolean isSame = i > 0 && jobs.get(order.get(i - 1)).colour == job.colour;
            hour += job.hours + (isSame ? 0 : setup);
            late += hour > job.due ? hour - job.due : 0;
        }
        return late;
    }

    private List<Integer> best(List<Integer> begun) {
        if (begun.size() == jobs.size()) {
            return begun;
        }
        List<Integer> least = null;
        for (int i = 0; i < jobs.size(); i++) {
            if (!begun.contains(i)) {
                List<Integer> longer = new ArrayList<>(begun);
                longer.add(i);
                List<Integer> found = best(longer);
                least = least == null || lateOf(found) < lateOf(least) ? found : least;
            }
        }
        return least;
    }

    public int lateness() {
        return lateOf(best(List.of()));
    }

    public int jobAt(int index) {
        at(jobs, index);
        return best(List.of()).get(index);
    }

    public int modules() {
        return modules.size();
    }

    public long area(char what) {
        switch (what) {
            case 'c':
                return came;
            case 's':
                return stock.stream().mapToLong(Board::area).sum();
            case 'p':
                return modules.stream().flatMap(m -> m.cut.stream()).mapToLong(Part::area).sum();
            case 'd':
                return dust;
            case 'x':
                return scrap;
            default:
                throw new IllegalArgumentException();
        }
    }

    public float cutShare() {
        if (modules.isEmpty()) {
            throw new NoSuchElementException();
        }
        int cut = modules.stream().mapToInt(m -> m.cut.size()).sum();
        return (float) cut / (float) modules.stream().mapToInt(m -> partsOf(m).size()).sum();
    }

    public double meanWidth() {
        if (modules.isEmpty()) {
            throw new NoSuchElementException();
        }
        return (double) modules.stream().mapToInt(m -> m.kind.width).sum() / (double) modules.size();
    }

    public boolean isSound() {
        long all = area('s') + area('p') + area('d') + area('x');
        boolean isSound = all == came && new HashSet<>(modules).size() == modules.size();
        for (Module one : modules) {
            for (Module other : modules) {
                isSound &= one == other || !isInWay(one, other) && !meet(one, other);
            }
        }
        return isSound;
    }
}
