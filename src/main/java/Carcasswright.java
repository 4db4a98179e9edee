import java.util.NoSuchElementException;

/**
 * A workshop that fits furniture into a room: walls, types of modules, their layout, parts, holes,
 * boards and the saw, money, packs and jobs. All rows are made once, so that calls make no objects.
 */
public final class Carcasswright {
    private static final int COLOURS = 3;
    /** Two sides, bottom, top and back, with at most 9 shelves, 2 doors and 9 fronts. */
    private static final int MOST_PARTS = 25;
    private static final int KERF = 4;

    private final Types types = new Types();
    private final Room room = new Room(types.first());
    private final Stock stock = new Stock();
    private final Saw saw = new Saw(stock);
    private final Packer packer = new Packer();
    private final Jobs jobs = new Jobs();
    private final int[] rates = {2, 5, 9};

    public Carcasswright() {
    }

    // rooms

    public int addWall(char way, int length) throws IllegalArgumentException, IllegalStateException {
        boolean isWay = way == 'e' || way == 'w' || way == 'n' || way == 's';
        if (!isWay || isOutside(length, 500, 9999)) {
            throw new IllegalArgumentException();
        }
        if (room.wallCount >= Room.MOST_WALLS || room.moduleCount > 0) {
            throw new IllegalStateException();
        }
        return room.build(way, length);
    }

    public int close() throws UnsupportedOperationException {
        if (room.wallCount < 4 || !room.hasAllWays() || room.moduleCount > 0) {
            throw new UnsupportedOperationException();
        }
        int greatest = Math.max(room.settle('e', 'w'), room.settle('n', 's'));
        if (!room.keepsLengths()) {
            throw new UnsupportedOperationException();
        }
        room.takeSettled();
        return greatest;
    }

    public int lengthOf(int wall) throws IndexOutOfBoundsException {
        return room.wallAt(wall).length;
    }

    public boolean isClosedRoom() {
        return room.wallCount > 0 && room.excess('e', 'w') == 0 && room.excess('n', 's') == 0;
    }

    public int setOff(int wall, int left, int right) throws IndexOutOfBoundsException, IllegalArgumentException {
        Wall told = room.wallAt(wall);
        if (isOutside(left, 0, 60) || isOutside(right, 0, 60)) {
            throw new IllegalArgumentException();
        }
        int before = 100 * told.left + told.right;
        told.left = left;
        told.right = right;
        return before;
    }

    public int obstacle(int wall, int from, int to, int low, int high)
            throws IndexOutOfBoundsException, IllegalArgumentException, IllegalStateException {
        room.wallAt(wall);
        if (isOutside(from, 0, 9998) || to <= from || to > 9999) {
            throw new IllegalArgumentException();
        }
        if (isOutside(low, 0, 2999) || high <= low || high > 3000) {
            throw new IllegalArgumentException();
        }
        if (room.obstacleCount >= Room.MOST_OBSTACLES) {
            throw new IllegalStateException();
        }
        return room.block(wall, from, to, low, high);
    }

    // texts and types

    public int type(char sign) throws IllegalStateException {
        if (types.signCount >= Types.MOST_SIGNS) {
            throw new IllegalStateException();
        }
        return types.append(sign);
    }

    public int wipe() {
        return types.clearText();
    }

    public int fault() throws NoSuchElementException {
        types.read();
        if (!types.hasFault()) {
            throw new NoSuchElementException();
        }
        return types.faultPlace;
    }

    public char faultKind() throws NoSuchElementException {
        types.read();
        if (!types.hasFault()) {
            throw new NoSuchElementException();
        }
        return types.faultLetter;
    }

    public int addType() throws IllegalArgumentException, IllegalStateException {
        types.read();
        if (types.hasFault()) {
            throw new IllegalArgumentException();
        }
        if (types.typeCount >= Types.MOST_TYPES) {
            throw new IllegalStateException();
        }
        return types.keepDraft();
    }

    public int told(int type, char what) throws IndexOutOfBoundsException, IllegalArgumentException {
        ModuleType asked = types.typeAt(type);
        switch (what) {
            case 'w':
                return asked.width;
            case 'd':
                return asked.doors;
            case 's':
                return asked.shelves;
            case 'r':
                return asked.drawers;
            case 'h':
                return asked.high;
            default:
                throw new IllegalArgumentException();
        }
    }

    // layout

    public int place(int type, int wall, int from, int colour) throws IndexOutOfBoundsException,
            IllegalArgumentException, IllegalStateException, UnsupportedOperationException {
        ModuleType chosen = types.typeAt(type);
        room.wallAt(wall);
        if (isOutside(from, 0, 9999) || isNoColour(colour)) {
            throw new IllegalArgumentException();
        }
        if (room.moduleCount >= Room.MOST_MODULES) {
            throw new IllegalStateException();
        }
        if (room.isRefused(chosen, wall, from, room.moduleCount)) {
            throw new UnsupportedOperationException();
        }
        return room.putModule(chosen, wall, from, colour);
    }

    public int shift(int module, int from)
            throws IndexOutOfBoundsException, IllegalArgumentException, UnsupportedOperationException {
        PlacedModule shifted = room.moduleAt(module);
        if (isOutside(from, 0, 9999)) {
            throw new IllegalArgumentException();
        }
        if (room.isRefused(shifted.type, shifted.wall, from, module)) {
            throw new UnsupportedOperationException();
        }
        int before = shifted.from;
        shifted.from = from;
        return before;
    }

    public int change(int module, int type) throws IndexOutOfBoundsException, UnsupportedOperationException {
        PlacedModule changed = room.moduleAt(module);
        ModuleType next = types.typeAt(type);
        if (room.isRefused(next, changed.wall, changed.from, module)) {
            throw new UnsupportedOperationException();
        }
        int scrapped = 0;
        int kept = 0;
        for (int part = 0; part < changed.type.partCount(); part++) {
            if (!changed.isCut(part)) {
                continue;
            }
            int same = next.findAlike(changed.type, part, ~kept);
            if (same >= 0) {
                kept |= 1 << same;
            } else {
                scrapped++;
                stock.scrap += changed.square(part);
            }
        }
        changed.type = next;
        changed.cutBits = kept;
        return scrapped;
    }

    public char clash(int depth) throws NoSuchElementException {
        if (depth < 0 || depth >= room.causeCount || depth >= Room.MOST_CAUSES) {
            throw new NoSuchElementException();
        }
        return room.causes[depth];
    }

    public int clashNumber(int depth) throws NoSuchElementException {
        if (depth < 0 || depth >= room.causeCount || depth >= Room.MOST_CAUSES) {
            throw new NoSuchElementException();
        }
        return room.causeNumbers[depth];
    }

    public int from(int module) throws IndexOutOfBoundsException {
        return room.moduleAt(module).from;
    }

    public int free(int wall, boolean isUpper) throws IndexOutOfBoundsException {
        return room.freeRows(wall, isUpper, false);
    }

    public int widest(int wall, boolean isUpper) throws IndexOutOfBoundsException {
        return room.freeRows(wall, isUpper, true);
    }

    // parts and holes

    public int parts(int module) throws IndexOutOfBoundsException {
        return room.moduleAt(module).type.partCount();
    }

    public char kindOf(int module, int part) throws IndexOutOfBoundsException {
        return moduleWithPart(module, part).type.kindAt(part);
    }

    public int size(int module, int part, char what) throws IndexOutOfBoundsException, IllegalArgumentException {
        ModuleType asked = moduleWithPart(module, part).type;
        char kind = asked.kindAt(part);
        switch (what) {
            case 'l':
                return asked.partLong(kind);
            case 'w':
                return asked.partWide(kind);
            case 't':
                return ModuleType.partThick(kind);
            case 'e':
                return ModuleType.edgeBits(kind);
            default:
                throw new IllegalArgumentException();
        }
    }

    public int weight(int module, int part) throws IndexOutOfBoundsException {
        return moduleWithPart(module, part).grams(part);
    }

    public int hinges(int module) throws IndexOutOfBoundsException {
        return room.moduleAt(module).type.allHinges();
    }

    public int holes(int module, int part) throws IndexOutOfBoundsException {
        return moduleWithPart(module, part).type.holeCount(part);
    }

    public int hole(int module, int part, int hole, char what)
            throws IndexOutOfBoundsException, IllegalArgumentException {
        ModuleType asked = moduleWithPart(module, part).type;
        if (hole < 0 || hole >= asked.holeCount(part)) {
            throw new IndexOutOfBoundsException();
        }
        switch (what) {
            case 'a':
                return asked.holeAlong(part, hole);
            case 'c':
                return asked.holeAcross(part, hole);
            case 'w':
                return asked.holeWide(part, hole);
            default:
                throw new IllegalArgumentException();
        }
    }

    public int drills(int module, int part) throws IndexOutOfBoundsException {
        ModuleType asked = moduleWithPart(module, part).type;
        long widths = 0;
        for (int hole = 0; hole < asked.holeCount(part); hole++) {
            widths |= 1L << asked.holeWide(part, hole);
        }
        return Long.bitCount(widths);
    }

    public int clamp(int module, int part, boolean isSecond)
            throws IndexOutOfBoundsException, NoSuchElementException {
        ModuleType asked = moduleWithPart(module, part).type;
        int first = asked.clampBehind(part, 0);
        if (first < 0) {
            throw new NoSuchElementException();
        }
        int second = asked.clampBehind(part, first + asked.partLong(asked.kindAt(part)) / 2);
        if (second < 0) {
            throw new NoSuchElementException();
        }
        return isSecond ? second : first;
    }

    // boards and the saw

    public int addBoards(int colour, int thick, int length, int width, int many)
            throws IllegalArgumentException, IllegalStateException {
        if (isNoColour(colour) || thick != 18 && thick != 8 || isOutside(length, 300, 2800)) {
            throw new IllegalArgumentException();
        }
        if (isOutside(width, 300, 2100) || isOutside(many, 1, 20)) {
            throw new IllegalArgumentException();
        }
        if (stock.count + many > Stock.MOST_BOARDS) {
            throw new IllegalStateException();
        }
        for (int i = 0; i < many; i++) {
            stock.append(colour, thick, length, width, false);
        }
        stock.came += (long) many * length * width;
        return stock.count;
    }

    public int boards() {
        return stock.count;
    }

    public int offcuts() {
        return stock.offcutCount();
    }

    public int board(int board, char what) throws IndexOutOfBoundsException, IllegalArgumentException {
        Board asked = stock.boardAt(board);
        switch (what) {
            case 'l':
                return asked.length;
            case 'w':
                return asked.width;
            case 't':
                return asked.thick;
            case 'c':
                return asked.colour;
            default:
                throw new IllegalArgumentException();
        }
    }

    public int uncut(int module) throws IndexOutOfBoundsException {
        return Integer.bitCount(room.moduleAt(module).uncutBits());
    }

    public int cut(int module) throws IndexOutOfBoundsException, NoSuchElementException,
            UnsupportedOperationException {
        PlacedModule sawn = room.moduleAt(module);
        if (sawn.uncutBits() == 0) {
            throw new NoSuchElementException();
        }
        if (!saw.layOut(sawn)) {
            throw new UnsupportedOperationException();
        }
        saw.takeOff(sawn.squares(sawn.uncutBits()));
        sawn.cutBits |= sawn.uncutBits();
        return saw.openedCount;
    }

    public int lose(int module, int part) throws IndexOutOfBoundsException, UnsupportedOperationException {
        PlacedModule losing = moduleWithPart(module, part);
        int lost = losing.isCut(part) ? part : losing.type.findAlike(losing.type, part, losing.cutBits);
        if (lost < 0) {
            throw new UnsupportedOperationException();
        }
        losing.cutBits &= ~(1 << lost);
        stock.scrap += losing.square(lost);
        return Integer.bitCount(losing.cutBits);
    }

    // edges, money, packs and steps

    public int edged(int colour) throws IllegalArgumentException {
        if (isNoColour(colour)) {
            throw new IllegalArgumentException();
        }
        int sum = 0;
        for (int i = 0; i < room.moduleCount; i++) {
            sum += room.moduleAt(i).cutEdges(colour);
        }
        return sum;
    }

    public int setRate(int colour, int rate) throws IllegalArgumentException {
        if (isNoColour(colour) || isOutside(rate, 0, 100)) {
            throw new IllegalArgumentException();
        }
        int before = rates[colour];
        rates[colour] = rate;
        return before;
    }

    public int price(int module) throws IndexOutOfBoundsException {
        PlacedModule asked = room.moduleAt(module);
        int sum = 3 * asked.type.allHinges() + 11 * asked.type.drawers;
        for (int part = 0; part < asked.type.partCount(); part++) {
            int colour = asked.colourAt(part);
            int edges = asked.edgeLength(part) * (colour == 0 ? 1 : 2);
            sum += rateOf(colour) * (asked.square(part) / 1000) / 100 + edges / 1000;
        }
        return sum;
    }

    public int packs(int module, int most) throws IndexOutOfBoundsException, IllegalArgumentException,
            UnsupportedOperationException {
        packAll(room.moduleAt(module), most);
        return packer.packCount;
    }

    public int packOf(int module, int most, int part) throws IndexOutOfBoundsException, IllegalArgumentException,
            UnsupportedOperationException {
        packAll(moduleWithPart(module, part), most);
        return packer.packAt(part);
    }

    public int stepAt(int module, int index) throws IndexOutOfBoundsException {
        moduleWithPart(module, index);
        // Each part waits only for parts with lower numbers: the lowest part that can be next is the next one.
        return index;
    }

    // jobs and figures

    public int job(int colour, int hours, int due) throws IllegalArgumentException, IllegalStateException {
        if (isNoColour(colour) || isOutside(hours, 1, 99) || isOutside(due, 0, 999)) {
            throw new IllegalArgumentException();
        }
        if (jobs.count >= Jobs.MOST_JOBS) {
            throw new IllegalStateException();
        }
        return jobs.append(colour, hours, due);
    }

    public int setSetup(int hours) throws IllegalArgumentException {
        if (isOutside(hours, 0, 99)) {
            throw new IllegalArgumentException();
        }
        int before = jobs.setup;
        jobs.setup = hours;
        return before;
    }

    public int lateness() {
        jobs.plan();
        return jobs.leastLate;
    }

    public int jobAt(int index) throws IndexOutOfBoundsException {
        if (index < 0 || index >= jobs.count || index >= Jobs.MOST_JOBS) {
            throw new IndexOutOfBoundsException();
        }
        jobs.plan();
        return jobs.best[index];
    }

    public int modules() {
        return room.moduleCount;
    }

    public long area(char what) throws IllegalArgumentException {
        switch (what) {
            case 'c':
                return stock.came;
            case 's':
                return stock.squares();
            case 'p':
                return room.cutSquares();
            case 'd':
                return stock.dust;
            case 'x':
                return stock.scrap;
            default:
                throw new IllegalArgumentException();
        }
    }

    public float cutShare() throws NoSuchElementException {
        int all = 0;
        int done = 0;
        for (int i = 0; i < room.moduleCount; i++) {
            PlacedModule module = room.moduleAt(i);
            all += module.type.partCount();
            done += Integer.bitCount(module.cutBits);
        }
        if (all == 0) {
            throw new NoSuchElementException();
        }
        return (float) done / (float) all;
    }

    public double meanWidth() throws NoSuchElementException {
        int sum = 0;
        for (int i = 0; i < room.moduleCount; i++) {
            sum += room.moduleAt(i).type.width;
        }
        if (room.moduleCount == 0) {
            throw new NoSuchElementException();
        }
        return (double) sum / (double) room.moduleCount;
    }

    public boolean isSound() {
        long found = stock.squares() + room.cutSquares() + stock.dust + stock.scrap;
        return found == stock.came && room.hasOnlyOwnParts() && !room.hasModulesInTheWay();
    }

    private static boolean isOutside(int number, int least, int most) {
        return number < least || number > most;
    }

    private static boolean isNoColour(int colour) {
        return colour < 0 || colour >= COLOURS;
    }

    private int rateOf(int colour) {
        return colour >= 0 && colour < rates.length ? rates[colour] : 0;
    }

    private PlacedModule moduleWithPart(int module, int part) {
        PlacedModule found = room.moduleAt(module);
        if (part < 0 || part >= found.type.partCount()) {
            throw new IndexOutOfBoundsException();
        }
        return found;
    }

    private void packAll(PlacedModule module, int most) {
        if (isOutside(most, 1, 99999)) {
            throw new IllegalArgumentException();
        }
        if (!packer.fill(module, most)) {
            throw new UnsupportedOperationException();
        }
    }

    private static final class Wall {
        char way = 'e';
        int measured;
        int length;
        /** The length that closing the room would give it. */
        int settled;
        int left;
        int right;
    }

    private static final class Obstacle {
        int wall;
        int from;
        int to;
        int low;
        int high;
    }

    /** Walls, obstacles and modules, and the causes of what was refused last. */
    private static final class Room {
        static final int MOST_WALLS = 6;
        static final int MOST_OBSTACLES = 8;
        static final int MOST_MODULES = 16;
        static final int MOST_CAUSES = 2;

        final Wall[] walls = new Wall[MOST_WALLS];
        final Obstacle[] obstacles = new Obstacle[MOST_OBSTACLES];
        final PlacedModule[] modules = new PlacedModule[MOST_MODULES];
        /** What is to be placed, shifted or changed, as it would stand. */
        final PlacedModule trial;
        final char[] causes = new char[MOST_CAUSES];
        final int[] causeNumbers = new int[MOST_CAUSES];
        int wallCount;
        int obstacleCount;
        int moduleCount;
        int causeCount;

        Room(ModuleType anyType) {
            for (int i = 0; i < MOST_WALLS; i++) {
                walls[i] = new Wall();
            }
            for (int i = 0; i < MOST_OBSTACLES; i++) {
                obstacles[i] = new Obstacle();
            }
            for (int i = 0; i < MOST_MODULES; i++) {
                modules[i] = new PlacedModule(anyType);
            }
            trial = new PlacedModule(anyType);
        }

        Wall wallAt(int wall) {
            if (wall < 0 || wall >= wallCount || wall >= MOST_WALLS) {
                throw new IndexOutOfBoundsException();
            }
            return walls[wall];
        }

        PlacedModule moduleAt(int module) {
            if (module < 0 || module >= moduleCount || module >= MOST_MODULES) {
                throw new IndexOutOfBoundsException();
            }
            return modules[module];
        }

        int build(char way, int length) {
            int number = wallCount;
            wallCount++;
            Wall wall = wallAt(number);
            wall.way = way;
            wall.measured = length;
            wall.length = length;
            return number;
        }

        boolean hasAllWays() {
            return countWay('e') > 0 && countWay('w') > 0 && countWay('n') > 0 && countWay('s') > 0;
        }

        int countWay(char way) {
            int many = 0;
            for (int i = 0; i < wallCount; i++) {
                many += wallAt(i).way == way ? 1 : 0;
            }
            return many;
        }

        /** How much longer the walls of one way are than those back. */
        int excess(char way, char back) {
            int more = 0;
            for (int i = 0; i < wallCount; i++) {
                Wall wall = wallAt(i);
                more += wall.way == way ? wall.length : wall.way == back ? -wall.length : 0;
            }
            return more;
        }

        /** Shares among the walls of both ways what they differ by, as measured; tells the greatest share. */
        int settle(char way, char back) {
            int more = 0;
            for (int i = 0; i < wallCount; i++) {
                Wall wall = wallAt(i);
                more += wall.way == way ? wall.measured : wall.way == back ? -wall.measured : 0;
            }
            char tooLong = more > 0 ? way : back;
            int left = Math.abs(more);
            int wallsLeft = countWay(way) + countWay(back);
            int greatest = 0;
            for (int i = 0; i < wallCount && wallsLeft > 0; i++) {
                Wall wall = wallAt(i);
                if (wall.way != way && wall.way != back) {
                    continue;
                }
                int share = (left + wallsLeft - 1) / wallsLeft;
                wall.settled = wall.way == tooLong ? wall.measured - share : wall.measured + share;
                greatest = Math.max(greatest, share);
                left -= share;
                wallsLeft--;
            }
            return greatest;
        }

        boolean keepsLengths() {
            for (int i = 0; i < wallCount; i++) {
                if (wallAt(i).settled <= 0) {
                    return false;
                }
            }
            return true;
        }

        void takeSettled() {
            for (int i = 0; i < wallCount; i++) {
                Wall wall = wallAt(i);
                wall.length = wall.settled;
            }
        }

        int block(int wall, int from, int to, int low, int high) {
            int number = obstacleCount;
            if (number < 0 || number >= MOST_OBSTACLES) {
                return -1;
            }
            Obstacle added = obstacles[number];
            added.wall = wall;
            added.from = from;
            added.to = to;
            added.low = low;
            added.high = high;
            obstacleCount++;
            return number;
        }

        int putModule(ModuleType type, int wall, int from, int colour) {
            int number = moduleCount;
            moduleCount++;
            PlacedModule added = moduleAt(number);
            added.stand(type, wall, from);
            added.colour = colour;
            added.cutBits = 0;
            return number;
        }

        /** Whether a module of this number cannot stand so; the causes are kept if it cannot. */
        boolean isRefused(ModuleType type, int wall, int from, int number) {
            trial.stand(type, wall, from);
            Wall at = wallAt(wall);
            int beyond = Math.max(at.left - from, trial.end() + at.right - at.length);
            if (beyond > 0) {
                refuse('e', beyond);
                return true;
            }
            return isInModule(number) || isInObstacle() || isInCorner(number);
        }

        void refuse(char cause, int number) {
            causes[0] = cause;
            causeNumbers[0] = number;
            causeCount = 1;
        }

        void refuseAt(char cause, int number, int height) {
            refuse(cause, number);
            causes[1] = 'h';
            causeNumbers[1] = height;
            causeCount = 2;
        }

        boolean isInModule(int number) {
            for (int i = 0; i < moduleCount; i++) {
                PlacedModule other = moduleAt(i);
                if (i != number && trial.isInWayOf(other)) {
                    refuseAt('o', i, Math.max(trial.type.lowest, other.type.lowest));
                    return true;
                }
            }
            return false;
        }

        boolean isInObstacle() {
            for (int i = 0; i < obstacleCount && i < MOST_OBSTACLES; i++) {
                Obstacle other = obstacles[i];
                if (other.wall == trial.wall && trial.takes(other.from, other.to, other.low, other.high)) {
                    refuseAt('p', i, Math.max(trial.type.lowest, other.low));
                    return true;
                }
            }
            return false;
        }

        boolean isInCorner(int number) {
            for (int i = 0; i < moduleCount; i++) {
                if (i != number && areInCorner(trial, moduleAt(i))) {
                    refuse('d', i);
                    return true;
                }
            }
            return false;
        }

        /** With two walls each one is next to the other, so that both corners count. */
        boolean areInCorner(PlacedModule one, PlacedModule other) {
            return meetInCorner(one, other) || meetInCorner(other, one);
        }

        boolean meetInCorner(PlacedModule one, PlacedModule next) {
            int nextWall = one.wall + 1 < wallCount ? one.wall + 1 : 0;
            if (wallCount < 2 || next.wall != nextWall || !one.type.sharesHeight(next.type)) {
                return false;
            }
            int left = wallAt(one.wall).length - one.end();
            if (left >= next.type.deep + 60 || next.from >= one.type.deep + 60) {
                return false;
            }
            return one.type.doors > 0 && left < one.type.doorSwing()
                || next.type.doors > 0 && next.from < next.type.doorSwing();
        }

        /** The free rows of a wall together, or only the widest one; modules of one level never overlap. */
        int freeRows(int wall, boolean isUpper, boolean isWidest) {
            int length = wallAt(wall).length;
            int sum = 0;
            int widest = 0;
            int at = 0;
            for (int step = 0; step <= moduleCount; step++) {
                PlacedModule next = firstBehind(wall, isUpper, at);
                int row = (next == null ? length : next.from) - at;
                sum += row;
                widest = Math.max(widest, row);
                if (next == null) {
                    break;
                }
                at = next.end();
            }
            return isWidest ? widest : sum;
        }

        PlacedModule firstBehind(int wall, boolean isUpper, int at) {
            PlacedModule first = null;
            char other = isUpper ? 'b' : 'u';
            for (int i = 0; i < moduleCount; i++) {
                PlacedModule module = moduleAt(i);
                boolean isMeant = module.wall == wall && module.type.body != other && module.from >= at;
                if (isMeant && (first == null || module.from < first.from)) {
                    first = module;
                }
            }
            return first;
        }

        long cutSquares() {
            long sum = 0;
            for (int i = 0; i < moduleCount; i++) {
                PlacedModule module = moduleAt(i);
                sum += module.squares(module.cutBits);
            }
            return sum;
        }

        boolean hasOnlyOwnParts() {
            for (int i = 0; i < moduleCount; i++) {
                PlacedModule module = moduleAt(i);
                if ((module.cutBits & ~module.type.allBits()) != 0) {
                    return false;
                }
            }
            return true;
        }

        boolean hasModulesInTheWay() {
            for (int i = 0; i < moduleCount; i++) {
                for (int k = 0; k < i; k++) {
                    PlacedModule one = moduleAt(i);
                    PlacedModule other = moduleAt(k);
                    if (one.isInWayOf(other) || areInCorner(one, other)) {
                        return true;
                    }
                }
            }
            return false;
        }
    }

    /** The text that is typed, what it tells, and the types that were added. */
    private static final class Types {
        static final int MOST_TYPES = 8;
        static final int MOST_SIGNS = 30;
        static final int MOST_DIGITS = 4;

        final char[] signs = new char[MOST_SIGNS];
        final ModuleType[] types = new ModuleType[MOST_TYPES];
        final ModuleType draft = new ModuleType();
        int signCount;
        int typeCount;
        int faultPlace;
        char faultLetter;
        /** What can come next, by the letter of the fault if it does not: 'k', 't', 'i', 'n', or 0 behind a fault. */
        char awaited;
        char item;
        int digits;

        Types() {
            for (int i = 0; i < MOST_TYPES; i++) {
                types[i] = new ModuleType();
            }
        }

        ModuleType first() {
            return types[0];
        }

        ModuleType typeAt(int type) {
            if (type < 0 || type >= typeCount || type >= MOST_TYPES) {
                throw new IndexOutOfBoundsException();
            }
            return types[type];
        }

        int append(char sign) {
            if (signCount >= 0 && signCount < MOST_SIGNS) {
                signs[signCount] = sign;
                signCount++;
            }
            return signCount;
        }

        int clearText() {
            int before = signCount;
            signCount = 0;
            return before;
        }

        int keepDraft() {
            int number = typeCount;
            typeCount++;
            typeAt(number).takeOver(draft);
            clearText();
            return number;
        }

        boolean hasFault() {
            return awaited == 0;
        }

        /** Reads the whole text into the draft, up to its fault. */
        void read() {
            draft.reset('b');
            awaited = 'k';
            item = 'k';
            digits = 0;
            for (int i = 0; i < signCount && i < MOST_SIGNS && !hasFault(); i++) {
                if (!readSign(signs[i])) {
                    fail(i, awaited);
                }
            }
            if (hasFault()) {
                return;
            }
            if (awaited != 'i') {
                fail(signCount, awaited);
            } else if (!draft.canBeBuilt()) {
                fail(signCount, 'f');
            }
        }

        void fail(int place, char letter) {
            faultPlace = place;
            faultLetter = letter;
            awaited = 0;
        }

        boolean readSign(char sign) {
            switch (awaited) {
                case 'k':
                    return readHead(sign);
                case 't':
                    return readTypeNumber(sign);
                case 'n':
                    return readFirstDigit(sign);
                default:
                    return readItem(sign);
            }
        }

        boolean readHead(char sign) {
            if (sign == '@') {
                awaited = 't';
                return true;
            }
            if (sign != 'b' && sign != 'u' && sign != 't') {
                return false;
            }
            draft.reset(sign);
            awaited = 'i';
            return true;
        }

        boolean readTypeNumber(char sign) {
            int number = sign - '0';
            if (number < 0 || number >= typeCount) {
                return false;
            }
            draft.takeOver(typeAt(number));
            awaited = 'i';
            return true;
        }

        boolean readItem(char sign) {
            if (isDigit(sign) && item == 'w' && digits < MOST_DIGITS) {
                draft.width = 10 * draft.width + (sign - '0');
                digits++;
                return true;
            }
            if (sign != 'w' && sign != 'd' && sign != 's' && sign != 'r') {
                return false;
            }
            item = sign;
            awaited = 'n';
            return true;
        }

        boolean readFirstDigit(char sign) {
            if (!isDigit(sign)) {
                return false;
            }
            draft.tell(item, sign - '0');
            digits = 1;
            awaited = 'i';
            return true;
        }

        static boolean isDigit(char sign) {
            return sign >= '0' && sign <= '9';
        }
    }

    /** What a text tells, and all that follows from it: parts with their sizes, hinges, holes and clamps. */
    private static final class ModuleType {
        char body = 'b';
        int high;
        int deep;
        /** The heights on the wall where it begins and ends. */
        int lowest;
        int highest;
        int width;
        int doors;
        int shelves;
        int drawers;

        void reset(char newBody) {
            body = newBody;
            high = body == 'u' ? 600 : body == 't' ? 2100 : 720;
            deep = body == 'u' ? 320 : 560;
            lowest = body == 'u' ? 1400 : 0;
            highest = body == 'u' ? 2000 : body == 't' ? 2100 : 820;
            width = 600;
            doors = 0;
            shelves = 0;
            drawers = 0;
        }

        void takeOver(ModuleType other) {
            reset(other.body);
            width = other.width;
            doors = other.doors;
            shelves = other.shelves;
            drawers = other.drawers;
        }

        void tell(char item, int number) {
            switch (item) {
                case 'w':
                    width = number;
                    break;
                case 'd':
                    doors = number;
                    break;
                case 's':
                    shelves = number;
                    break;
                default:
                    drawers = number;
                    break;
            }
        }

        boolean canBeBuilt() {
            int leastDoor = doors > 0 ? 200 : 0;
            return width >= 150 && width <= 1200 && doors <= 2 && doorHigh() >= leastDoor;
        }

        boolean sharesHeight(ModuleType other) {
            return lowest < other.highest && other.lowest < highest;
        }

        int doorHigh() {
            return high - 4 - 180 * drawers;
        }

        /** How far an open door reaches. */
        int doorSwing() {
            return doors > 0 ? width / doors : 0;
        }

        int partCount() {
            return 5 + shelves + doors + drawers;
        }

        int allBits() {
            return (1 << partCount()) - 1;
        }

        char kindAt(int part) {
            if (part < 2) {
                return 's';
            }
            if (part < 5) {
                return part == 2 ? 'b' : part == 3 ? 't' : 'k';
            }
            if (part < 5 + shelves) {
                return 'h';
            }
            return part < 5 + shelves + doors ? 'd' : 'f';
        }

        int partLong(char kind) {
            switch (kind) {
                case 's':
                    return high;
                case 'k':
                    return high - 4;
                case 'h':
                    return width - 38;
                case 'd':
                    return doorHigh();
                case 'f':
                    return 176;
                default:
                    return width - 36;
            }
        }

        int partWide(char kind) {
            switch (kind) {
                case 't':
                    return body == 'b' ? 100 : deep;
                case 'k':
                case 'f':
                    return width - 4;
                case 'h':
                    return deep - 20;
                case 'd':
                    return doorSwing() - 3;
                default:
                    return deep;
            }
        }

        static int partThick(char kind) {
            return kind == 'k' ? 8 : 18;
        }

        static int edgeBits(char kind) {
            if (kind == 'k') {
                return 0;
            }
            return isFace(kind) ? 15 : 1;
        }

        /** Doors and fronts are what is seen of a module, in its colour. */
        static boolean isFace(char kind) {
            return kind == 'd' || kind == 'f';
        }

        static boolean hasGrain(char kind) {
            return kind == 's' || isFace(kind);
        }

        /**
         * The lowest part, of those of some bits, that is alike with a part of another type, or -1. In one module
         * thickness, colour and edges follow from the kind.
         */
        int findAlike(ModuleType other, int otherPart, int bits) {
            char kind = other.kindAt(otherPart);
            if (partLong(kind) != other.partLong(kind) || partWide(kind) != other.partWide(kind)) {
                return -1;
            }
            for (int part = 0; part < partCount(); part++) {
                if ((bits >> part & 1) != 0 && kindAt(part) == kind) {
                    return part;
                }
            }
            return -1;
        }

        int hingesOfDoor() {
            return doorHigh() <= 900 ? 2 : doorHigh() <= 1600 ? 3 : 4;
        }

        int allHinges() {
            return doors * hingesOfDoor();
        }

        int hingeAlong(int hinge) {
            int gaps = hingesOfDoor() - 1;
            return gaps > 0 ? 80 + (doorHigh() - 160) * hinge / gaps : 80;
        }

        /** The first side bears the first door, the second side the second one. */
        int hingesOnSide(int side) {
            return side < doors ? hingesOfDoor() : 0;
        }

        int holeCount(int part) {
            switch (kindAt(part)) {
                case 's':
                    return 2 * shelves + hingesOnSide(part) + drawers;
                case 'd':
                    return hingesOfDoor();
                default:
                    return 0;
            }
        }

        int holeAlong(int part, int hole) {
            if (kindAt(part) == 'd') {
                return hingeAlong(hole);
            }
            if (hole < 2 * shelves) {
                int gaps = shelves + 1;
                return gaps > 0 ? high * (hole / 2 + 1) / gaps / 32 * 32 : 0;
            }
            int behindShelves = hole - 2 * shelves;
            if (behindShelves < hingesOnSide(part)) {
                return hingeAlong(behindShelves);
            }
            return high - 90 - 180 * (behindShelves - hingesOnSide(part));
        }

        int holeAcross(int part, int hole) {
            if (kindAt(part) == 'd') {
                return 22;
            }
            if (hole < 2 * shelves) {
                return hole % 2 == 0 ? 37 : deep - 37;
            }
            return hole - 2 * shelves < hingesOnSide(part) ? 37 : 100;
        }

        int holeWide(int part, int hole) {
            if (kindAt(part) == 'd') {
                return 35;
            }
            if (hole < 2 * shelves) {
                return 5;
            }
            return hole - 2 * shelves < hingesOnSide(part) ? 10 : 8;
        }

        /** The first place for a clamp that is not ahead of another place, or -1. */
        int clampBehind(int part, int least) {
            int last = partLong(kindAt(part)) - 50;
            for (int place = 50; place <= last; place += 50) {
                if (place >= least && isAwayFromHoles(part, place)) {
                    return place;
                }
            }
            return -1;
        }

        boolean isAwayFromHoles(int part, int place) {
            for (int hole = 0; hole < holeCount(part); hole++) {
                int away = Math.abs(holeAlong(part, hole) - place);
                if (holeAcross(part, hole) <= 60 && away < 40 + holeWide(part, hole) / 2) {
                    return false;
                }
            }
            return true;
        }
    }

    private static final class PlacedModule {
        ModuleType type;
        int wall;
        int from;
        int colour;
        /** A bit for each part that is cut. */
        int cutBits;

        PlacedModule(ModuleType anyType) {
            type = anyType;
        }

        void stand(ModuleType newType, int newWall, int newFrom) {
            type = newType;
            wall = newWall;
            from = newFrom;
        }

        int end() {
            return from + type.width;
        }

        boolean takes(int otherFrom, int otherTo, int low, int high) {
            return from < otherTo && otherFrom < end() && type.lowest < high && low < type.highest;
        }

        boolean isInWayOf(PlacedModule other) {
            return wall == other.wall
                && takes(other.from, other.end(), other.type.lowest, other.type.highest);
        }

        boolean isCut(int part) {
            return (cutBits >> part & 1) != 0;
        }

        int uncutBits() {
            return type.allBits() & ~cutBits;
        }

        int colourAt(int part) {
            return ModuleType.isFace(type.kindAt(part)) ? colour : 0;
        }

        int thickAt(int part) {
            return ModuleType.partThick(type.kindAt(part));
        }

        int square(int part) {
            char kind = type.kindAt(part);
            return type.partLong(kind) * type.partWide(kind);
        }

        long squares(int bits) {
            long sum = 0;
            for (int part = 0; part < type.partCount(); part++) {
                if ((bits >> part & 1) != 0) {
                    sum += square(part);
                }
            }
            return sum;
        }

        int grams(int part) {
            return square(part) * thickAt(part) * 7 / 10000;
        }

        int edgeLength(int part) {
            char kind = type.kindAt(part);
            switch (ModuleType.edgeBits(kind)) {
                case 0:
                    return 0;
                case 1:
                    return type.partLong(kind);
                default:
                    return 2 * (type.partLong(kind) + type.partWide(kind));
            }
        }

        int cutEdges(int ofColour) {
            int sum = 0;
            for (int part = 0; part < type.partCount(); part++) {
                if (isCut(part) && colourAt(part) == ofColour) {
                    sum += edgeLength(part);
                }
            }
            return sum;
        }
    }

    private static final class Board {
        int colour;
        int thick;
        int length;
        int width;
        boolean isOffcut;
        boolean isOpened;
        /** Where its last strip ends, 0 without one. */
        int stripsEnd;

        void become(int newColour, int newThick, int newLength, int newWidth) {
            colour = newColour;
            thick = newThick;
            length = newLength;
            width = newWidth;
        }

        int square() {
            return length * width;
        }

        boolean isOf(int ofThick, int ofColour) {
            return thick == ofThick && colour == ofColour;
        }

        /** Where a new strip begins. */
        int nextStrip() {
            return stripsEnd == 0 ? 0 : stripsEnd + KERF;
        }

        boolean hasPlaceForStrip(int pieceLength, int pieceWidth) {
            return pieceLength <= length && nextStrip() + pieceWidth <= width;
        }
    }

    /** The boards, and where all that came has gone but for the cut parts. */
    private static final class Stock {
        static final int MOST_BOARDS = 60;

        final Board[] boards = new Board[MOST_BOARDS];
        int count;
        long came;
        long dust;
        long scrap;

        Stock() {
            for (int i = 0; i < MOST_BOARDS; i++) {
                boards[i] = new Board();
            }
        }

        Board boardAt(int board) {
            if (board < 0 || board >= count || board >= MOST_BOARDS) {
                throw new IndexOutOfBoundsException();
            }
            return boards[board];
        }

        /** Whether there was place for it. */
        boolean append(int colour, int thick, int length, int width, boolean isOffcut) {
            if (count < 0 || count >= MOST_BOARDS) {
                return false;
            }
            Board added = boards[count];
            added.become(colour, thick, length, width);
            added.isOffcut = isOffcut;
            added.isOpened = false;
            added.stripsEnd = 0;
            count++;
            return true;
        }

        int offcutCount() {
            int many = 0;
            for (int i = 0; i < count; i++) {
                many += boardAt(i).isOffcut ? 1 : 0;
            }
            return many;
        }

        long squares() {
            long sum = 0;
            for (int i = 0; i < count; i++) {
                sum += boardAt(i).square();
            }
            return sum;
        }

        /** The number of the board to be opened next for a piece, or -1. */
        int findNext(int thick, int colour, int length, int width) {
            int best = -1;
            for (int i = 0; i < count; i++) {
                Board board = boardAt(i);
                if (board.isOpened || !board.isOf(thick, colour) || board.length < length || board.width < width) {
                    continue;
                }
                if (best < 0 || goesAhead(board, boardAt(best))) {
                    best = i;
                }
            }
            return best;
        }

        /** Whether a board is to be opened ahead of one that comes earlier in the stock. */
        static boolean goesAhead(Board later, Board earlier) {
            return later.isOffcut && (!earlier.isOffcut || later.square() < earlier.square());
        }

        void closeAll() {
            for (int i = 0; i < count; i++) {
                Board board = boardAt(i);
                board.isOpened = false;
                board.stripsEnd = 0;
            }
        }

        /** Moves the boards that stay to the front, in their order. */
        void takeOutOpened() {
            int kept = 0;
            for (int i = 0; i < count && i < MOST_BOARDS; i++) {
                Board board = boards[i];
                if (!board.isOpened && kept <= i) {
                    boards[i] = boards[kept];
                    boards[kept] = board;
                    kept++;
                }
            }
            count = kept;
        }
    }

    /** Lays the parts of a module into strips of boards. A part opens at most one strip and one board. */
    private static final class Saw {
        static final int LEAST_OFFCUT = 300;
        static final int MOST_LEFT = 2 * MOST_PARTS;

        final Stock stock;
        final int[] lengths = new int[MOST_PARTS];
        final int[] widths = new int[MOST_PARTS];
        int pieceCount;
        /** Numbers in the stock, in the order of opening. */
        final int[] opened = new int[MOST_PARTS];
        int openedCount;
        /** The first opened board of the thickness and colour at hand. */
        int groupStart;
        /** Of each strip its board, by the order of opening, its width, and where what lies there ends. */
        final int[] stripBoards = new int[MOST_PARTS];
        final int[] stripWidths = new int[MOST_PARTS];
        final int[] stripEnds = new int[MOST_PARTS];
        int stripCount;
        final Board[] left = new Board[MOST_LEFT];
        int leftCount;

        Saw(Stock ofStock) {
            stock = ofStock;
            for (int i = 0; i < MOST_LEFT; i++) {
                left[i] = new Board();
            }
        }

        /** Finds a place for all parts that are not cut; if there is none, all boards are as before. */
        boolean layOut(PlacedModule module) {
            openedCount = 0;
            stripCount = 0;
            int todo = module.uncutBits();
            for (int part = 0; part < module.type.partCount(); part++) {
                if ((todo >> part & 1) == 0) {
                    continue;
                }
                int thick = module.thickAt(part);
                int colour = module.colourAt(part);
                int group = bitsOf(module, todo, thick, colour);
                todo &= ~group;
                collect(module, group);
                if (!layGroup(thick, colour)) {
                    stock.closeAll();
                    return false;
                }
            }
            return true;
        }

        static int bitsOf(PlacedModule module, int bits, int thick, int colour) {
            int group = 0;
            for (int part = 0; part < module.type.partCount(); part++) {
                boolean isOfGroup = module.thickAt(part) == thick && module.colourAt(part) == colour;
                if (isOfGroup && (bits >> part & 1) != 0) {
                    group |= 1 << part;
                }
            }
            return group;
        }

        /** Makes pieces of some parts, as they lie on the board, in the order in which they are cut. */
        void collect(PlacedModule module, int group) {
            ModuleType type = module.type;
            pieceCount = 0;
            for (int part = 0; part < type.partCount(); part++) {
                if ((group >> part & 1) == 0) {
                    continue;
                }
                char kind = type.kindAt(part);
                int length = type.partLong(kind);
                int width = type.partWide(kind);
                boolean isPair = kind == 'd' && (group >> part + 1 & 1) != 0 && type.kindAt(part + 1) == 'd';
                if (isPair) {
                    insert(length, 2 * width + KERF);
                    part++;
                } else if (ModuleType.hasGrain(kind) || length >= width) {
                    insert(length, width);
                } else {
                    insert(width, length);
                }
            }
        }

        /** Puts a piece behind all that are wider, or as wide and not shorter. */
        void insert(int length, int width) {
            if (pieceCount < 0 || pieceCount >= MOST_PARTS) {
                return;
            }
            int at = pieceCount;
            for (int i = pieceCount; i > 0; i--) {
                int ahead = i - 1;
                if (widths[ahead] > width || widths[ahead] == width && lengths[ahead] >= length) {
                    break;
                }
                widths[i] = widths[ahead];
                lengths[i] = lengths[ahead];
                at = ahead;
            }
            widths[at] = width;
            lengths[at] = length;
            pieceCount++;
        }

        boolean layGroup(int thick, int colour) {
            groupStart = openedCount;
            for (int i = 0; i < pieceCount && i < MOST_PARTS; i++) {
                if (layInOpened(lengths[i], widths[i])) {
                    continue;
                }
                int next = stock.findNext(thick, colour, lengths[i], widths[i]);
                if (next < 0 || openedCount < 0 || openedCount >= MOST_PARTS) {
                    return false;
                }
                opened[openedCount] = next;
                openedCount++;
                stock.boardAt(next).isOpened = true;
                addStrip(openedCount - 1, lengths[i], widths[i]);
            }
            return true;
        }

        boolean layInOpened(int length, int width) {
            for (int order = groupStart; order < openedCount; order++) {
                if (layInStrip(order, length, width)) {
                    return true;
                }
                if (openedAt(order).hasPlaceForStrip(length, width)) {
                    addStrip(order, length, width);
                    return true;
                }
            }
            return false;
        }

        boolean layInStrip(int order, int length, int width) {
            int room = openedAt(order).length;
            for (int i = 0; i < stripCount && i < MOST_PARTS; i++) {
                boolean isWideEnough = stripBoards[i] == order && stripWidths[i] >= width;
                if (isWideEnough && stripEnds[i] + KERF + length <= room) {
                    stripEnds[i] += KERF + length;
                    return true;
                }
            }
            return false;
        }

        void addStrip(int order, int length, int width) {
            if (stripCount < 0 || stripCount >= MOST_PARTS) {
                return;
            }
            Board board = openedAt(order);
            board.stripsEnd = board.nextStrip() + width;
            stripBoards[stripCount] = order;
            stripWidths[stripCount] = width;
            stripEnds[stripCount] = length;
            stripCount++;
        }

        Board openedAt(int order) {
            if (order < 0 || order >= openedCount || order >= MOST_PARTS) {
                throw new IndexOutOfBoundsException();
            }
            return stock.boardAt(opened[order]);
        }

        /** Takes the opened boards out of the stock and puts their offcuts behind it. */
        void takeOff(long partSquares) {
            long waste = -partSquares;
            leftCount = 0;
            for (int order = 0; order < openedCount; order++) {
                Board board = openedAt(order);
                waste += board.square();
                for (int i = 0; i < stripCount && i < MOST_PARTS; i++) {
                    if (stripBoards[i] == order) {
                        keepLeft(board, board.length - stripEnds[i] - KERF, stripWidths[i]);
                    }
                }
                keepLeft(board, board.length, board.width - board.stripsEnd - KERF);
            }
            stock.takeOutOpened();
            for (int i = 0; i < leftCount && i < MOST_LEFT; i++) {
                Board offcut = left[i];
                if (stock.append(offcut.colour, offcut.thick, offcut.length, offcut.width, true)) {
                    waste -= offcut.square();
                }
            }
            stock.dust += waste;
        }

        void keepLeft(Board of, int length, int width) {
            boolean isOffcut = length >= LEAST_OFFCUT && width >= LEAST_OFFCUT;
            if (isOffcut && leftCount >= 0 && leftCount < MOST_LEFT) {
                left[leftCount].become(of.colour, of.thick, length, width);
                leftCount++;
            }
        }
    }

    private static final class Packer {
        final int[] weights = new int[MOST_PARTS];
        final int[] packs = new int[MOST_PARTS];
        final int[] loads = new int[MOST_PARTS];
        int packCount;

        int packAt(int part) {
            return part >= 0 && part < MOST_PARTS ? packs[part] : -1;
        }

        /** Packs all parts; tells whether none of them is heavier than the most. */
        boolean fill(PlacedModule module, int most) {
            int count = Math.min(module.type.partCount(), MOST_PARTS);
            packCount = 0;
            for (int part = 0; part < count; part++) {
                weights[part] = module.grams(part);
                packs[part] = -1;
            }
            for (int step = 0; step < count; step++) {
                int part = heaviestUnpacked(count);
                if (part < 0 || part >= MOST_PARTS || weights[part] > most) {
                    return false;
                }
                packs[part] = load(weights[part], most);
            }
            return true;
        }

        int heaviestUnpacked(int count) {
            int heaviest = -1;
            for (int part = 0; part < count && part < MOST_PARTS; part++) {
                if (packs[part] < 0 && (heaviest < 0 || weights[part] > weights[heaviest])) {
                    heaviest = part;
                }
            }
            return heaviest;
        }

        int load(int grams, int most) {
            for (int i = 0; i < packCount && i < MOST_PARTS; i++) {
                if (loads[i] + grams <= most) {
                    loads[i] += grams;
                    return i;
                }
            }
            if (packCount < 0 || packCount >= MOST_PARTS) {
                return -1;
            }
            loads[packCount] = grams;
            packCount++;
            return packCount - 1;
        }
    }

    private static final class Jobs {
        static final int MOST_JOBS = 6;
        /** More orders than six jobs have. */
        static final int MOST_ORDERS = 1000;

        final int[] colours = new int[MOST_JOBS];
        final int[] hours = new int[MOST_JOBS];
        final int[] dues = new int[MOST_JOBS];
        final int[] order = new int[MOST_JOBS];
        final int[] best = new int[MOST_JOBS];
        int count;
        int setup = 2;
        int leastLate;

        int append(int colour, int forHours, int due) {
            int number = count;
            if (number < 0 || number >= MOST_JOBS) {
                return -1;
            }
            colours[number] = colour;
            hours[number] = forHours;
            dues[number] = due;
            count++;
            return number;
        }

        /** Goes through all orders, the lower ones first, and keeps the first one that is least late. */
        void plan() {
            for (int i = 0; i < MOST_JOBS; i++) {
                order[i] = i;
            }
            leastLate = lateInOrder();
            keepOrder();
            for (int i = 0; i < MOST_ORDERS && goToNextOrder(); i++) {
                int late = lateInOrder();
                if (late < leastLate) {
                    leastLate = late;
                    keepOrder();
                }
            }
        }

        void keepOrder() {
            for (int i = 0; i < MOST_JOBS; i++) {
                best[i] = order[i];
            }
        }

        int lateInOrder() {
            int late = 0;
            int hour = 0;
            int colour = -1;
            for (int i = 0; i < count && i < MOST_JOBS; i++) {
                int job = order[i];
                if (job < 0 || job >= MOST_JOBS) {
                    continue;
                }
                hour += hours[job] + (colours[job] == colour ? 0 : setup);
                late += Math.max(0, hour - dues[job]);
                colour = colours[job];
            }
            return late;
        }

        /** Makes the next greater order of the jobs; tells whether there was one. */
        boolean goToNextOrder() {
            int last = Math.min(count, MOST_JOBS) - 1;
            for (int i = last - 1; i >= 0; i--) {
                if (order[i] < order[i + 1]) {
                    swapWithNextGreater(i, last);
                    turnRound(i + 1, last);
                    return true;
                }
            }
            return false;
        }

        void swapWithNextGreater(int at, int last) {
            for (int i = last; i > at && at >= 0 && i < MOST_JOBS; i--) {
                if (order[i] > order[at]) {
                    swap(i, at);
                    return;
                }
            }
        }

        void turnRound(int first, int last) {
            for (int i = first, k = last; i < k; i++, k--) {
                swap(i, k);
            }
        }

        void swap(int one, int other) {
            boolean isInside = one >= 0 && other >= 0 && one < MOST_JOBS && other < MOST_JOBS;
            if (isInside) {
                int kept = order[one];
                order[one] = order[other];
                order[other] = kept;
            }
        }
    }
}
