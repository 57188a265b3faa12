/**
 * A yard of bars that hold or flex in the plane. What each call does and answers is told by the
 * promises of the project's document. Every array is made with the object and used again, so that
 * a call makes nothing but the exception that it throws.
 */
public final class Stresswork {
    public static final int NONE = -1;
    public static final int BAR = 0, CABLE = 1, STRUT = 2;
    public static final int FLAT = 0, NOT_ROUND = 1, NOT_EVEN = 2, NOT_TOLD = 3;

    private static final int PRIME = 1000003;
    private static final int MOST_JOINTS = 10;
    private static final int MOST_MEMBERS = 40;
    private static final int FARTHEST_JOINT = 50;
    private static final int GROW_BARS = 2;
    private static final int SPLIT_BARS = 3;
    private static final int MOST_STRESS = 99;
    private static final int LONGEST_LINK = 1000000;
    private static final int FARTHEST_REACH = 3000000;
    private static final int ROUND = 360;
    private static final int EVEN = 180;
    private static final int ALL_FOLDS = 15;
    private static final int MOST_SQUARE = 30000;
    private static final int MOST_ERROR = 5000;
    private static final int FARTHEST_PLACE = 60;
    private static final int PLACE_SCALE = 1000;
    private static final int DRAW_FACTOR = 1103;
    private static final int DRAW_OFFSET = 12345;

    private final Joints joints = new Joints();
    private final Members members = new Members();
    private final Steps steps = new Steps();
    private final Layout layout = new Layout();
    private final Grid grid = new Grid();
    private final Pebbles pebbles = new Pebbles();
    private long keptSet = 0;

    public Stresswork() {
    }

    public int joint(int x, int y) throws IllegalArgumentException, IllegalStateException {
        requirePoint(x, y);
        requireRoomForJoint();
        return joints.add(x, y);
    }

    public void move(int joint, int x, int y)
            throws IndexOutOfBoundsException, IllegalArgumentException {
        requireJoint(joint);
        requirePoint(x, y);
        joints.x[joint] = x;
        joints.y[joint] = y;
    }

    public boolean pin(int joint, boolean pinned) throws IndexOutOfBoundsException {
        requireJoint(joint);
        boolean before = joints.pinned[joint];
        joints.pinned[joint] = pinned;
        return before;
    }

    public int member(int joint, int other, int kind)
            throws IndexOutOfBoundsException, IllegalArgumentException, IllegalStateException {
        requireJoint(joint);
        requireJoint(other);
        requireTwo(joint, other);
        if (kind < BAR || kind > STRUT) {
            throw new IllegalArgumentException("no such kind");
        }
        if (members.join(joint, other)) {
            throw new IllegalStateException("these joints have a member");
        }
        requireRoomForMembers(1);
        return members.add(joint, other, kind);
    }

    public int remove(int member) throws IndexOutOfBoundsException {
        requireMember(member);
        members.gone[member] = true;
        return members.present();
    }

    // ---- ranks

    public int rank() {
        layout.takeJoints(joints);
        return rankWithout(NONE);
    }

    public int motions() {
        layout.takeJoints(joints);
        return layout.width - rankWithout(NONE);
    }

    public int stresses() {
        layout.takeJoints(joints);
        return members.present() - rankWithout(NONE);
    }

    public boolean isRedundant(int member) throws IndexOutOfBoundsException {
        requireMember(member);
        layout.takeJoints(joints);
        return rankWithout(member) == rankWithout(NONE);
    }

    public int flex(int k, int joint, boolean isY) throws IndexOutOfBoundsException {
        requireJoint(joint);
        requireCount(k);
        layout.takeJoints(joints);
        writeRows(NONE);
        grid.reduce();
        int free = grid.freeColumn(k);
        if (free == NONE) {
            return NONE;
        }
        int column = layout.column[joint];
        if (column == NONE) {
            return 0;
        }
        return grid.solution(free, isY ? column + 1 : column);
    }

    public int balance(int k, int member) throws IndexOutOfBoundsException {
        requireMember(member);
        requireCount(k);
        layout.takeJoints(joints);
        writeRows(NONE);
        // What depends among rows depends among columns once the grid is turned.
        grid.turn();
        grid.reduce();
        int free = grid.freeColumn(k);
        if (free == NONE) {
            return NONE;
        }
        return grid.solution(free, members.presentAhead(member));
    }

    public int rankAt(int seed) throws IllegalArgumentException {
        if (seed < 0 || seed >= PRIME) {
            throw new IllegalArgumentException("seed is out of range");
        }
        layout.drawPoints(joints.count, seed);
        return rankWithout(NONE);
    }

    // ---- in general

    public int kept() {
        return keepWithout(NONE);
    }

    public boolean isKept(int member) throws IndexOutOfBoundsException {
        requireMember(member);
        keepWithout(NONE);
        return hasBit(keptSet, member);
    }

    public int block(int member) throws IndexOutOfBoundsException {
        requireMember(member);
        keepWithout(NONE);
        int from = members.from[member];
        int to = members.to[member];
        int set = bit(from) | bit(to);
        for (int other = 0; other < joints.count; other++) {
            if (other != from && other != to && isFirm(other, from) && isFirm(other, to)) {
                set |= bit(other);
            }
        }
        return set;
    }

    public int lacks() {
        if (joints.count < 2) {
            return NONE;
        }
        return rigidCount() - keepWithout(NONE);
    }

    public boolean isGlobal() {
        if (isComplete()) {
            return true;
        }
        if (joints.count < 4 || keepWithout(NONE) != rigidCount()) {
            return false;
        }
        return hangsWithoutAnyTwo() && isRigidWithoutEachOf(keptSet);
    }

    // ---- steps

    public int grow(int joint, int other, int x, int y)
            throws IndexOutOfBoundsException, IllegalArgumentException, IllegalStateException {
        requireJoint(joint);
        requireJoint(other);
        requireTwo(joint, other);
        requirePoint(x, y);
        requireRoomForJoint();
        requireRoomForMembers(GROW_BARS);
        int made = joints.add(x, y);
        int firstBar = members.add(joint, made, BAR);
        members.add(other, made, BAR);
        steps.add(made, firstBar, NONE);
        return made;
    }

    public int split(int member, int joint, int x, int y)
            throws IndexOutOfBoundsException, IllegalArgumentException, IllegalStateException {
        requireMember(member);
        requireJoint(joint);
        if (members.endsAt(member, joint)) {
            throw new IllegalArgumentException("the joint is an end of the member");
        }
        requirePoint(x, y);
        requireRoomForJoint();
        requireRoomForMembers(SPLIT_BARS);
        int made = joints.add(x, y);
        members.gone[member] = true;
        int firstBar = members.add(members.from[member], made, BAR);
        members.add(members.to[member], made, BAR);
        members.add(joint, made, BAR);
        steps.add(made, firstBar, member);
        return made;
    }

    public int undo() throws IllegalStateException {
        int last = steps.count - 1;
        if (last < 0) {
            throw new IllegalStateException("there is no step");
        }
        if (!canBeUndone(last)) {
            throw new IllegalStateException("the last step cannot be undone");
        }
        for (int i = 0; i < steps.bars(last); i++) {
            members.gone[steps.firstBar[last] + i] = true;
        }
        joints.dropLast();
        bringBack(steps.splitMember[last]);
        steps.dropLast();
        return steps.count;
    }

    // ---- told stresses

    public int stress(int member, int stress)
            throws IndexOutOfBoundsException, IllegalArgumentException {
        requireMember(member);
        if (stress < -MOST_STRESS || stress > MOST_STRESS) {
            throw new IllegalArgumentException("stress is out of range");
        }
        int before = members.told[member];
        members.told[member] = stress;
        return before;
    }

    public int unbalanced() {
        int set = 0;
        for (int joint = 0; joint < joints.count; joint++) {
            if (!joints.pinned[joint] && !isBalanced(joint)) {
                set |= bit(joint);
            }
        }
        return set;
    }

    public boolean isProper() {
        boolean anyStress = false;
        for (int member = 0; member < members.count; member++) {
            if (members.has(member)) {
                if (members.isWronglyTold(member)) {
                    return false;
                }
                if (members.told[member] != 0) {
                    anyStress = true;
                }
            }
        }
        return anyStress && unbalanced() == 0;
    }

    public int matrix() {
        grid.begin(joints.count, joints.count);
        for (int member = 0; member < members.count; member++) {
            if (members.has(member)) {
                int from = members.from[member];
                int to = members.to[member];
                int told = members.told[member];
                grid.add(from, to, -told);
                grid.add(to, from, -told);
                grid.add(from, from, told);
                grid.add(to, to, told);
            }
        }
        return grid.reduce();
    }

    // ---- chains, sheets, places

    public boolean reaches(int a, int b, int c, int distance) throws IllegalArgumentException {
        requireLink(a);
        requireLink(b);
        requireLink(c);
        if (distance < 0 || distance > FARTHEST_REACH) {
            throw new IllegalArgumentException("distance is out of range");
        }
        int sum = a + b + c;
        int longest = Math.max(a, Math.max(b, c));
        return distance <= sum && distance >= longest - (sum - longest);
    }

    public int folds(int a, int b, int c, int d, int mountains) throws IllegalArgumentException {
        requireAngle(a);
        requireAngle(b);
        requireAngle(c);
        requireAngle(d);
        if (mountains < 0 || mountains > ALL_FOLDS) {
            throw new IllegalArgumentException("mountains is out of range");
        }
        if (a + b + c + d != ROUND) {
            return NOT_ROUND;
        }
        if (a + c != EVEN) {
            return NOT_EVEN;
        }
        int count = Integer.bitCount(mountains);
        return count == 1 || count == 3 ? FLAT : NOT_TOLD;
    }

    public int range(int joint, int square)
            throws IndexOutOfBoundsException, IllegalArgumentException {
        requireJoint(joint);
        if (square != NONE && (square < 0 || square > MOST_SQUARE)) {
            throw new IllegalArgumentException("square is out of range");
        }
        int before = joints.square[joint];
        joints.square[joint] = square;
        return before;
    }

    public int places(int error) throws IllegalArgumentException {
        requireError(error);
        int count = 0;
        for (int x = -FARTHEST_PLACE; x <= FARTHEST_PLACE; x++) {
            for (int y = -FARTHEST_PLACE; y <= FARTHEST_PLACE; y++) {
                if (joints.fits(x, y, error)) {
                    count++;
                }
            }
        }
        return count;
    }

    public int place(int error, int place)
            throws IndexOutOfBoundsException, IllegalArgumentException {
        requireCount(place);
        requireError(error);
        int ahead = 0;
        for (int x = -FARTHEST_PLACE; x <= FARTHEST_PLACE; x++) {
            for (int y = -FARTHEST_PLACE; y <= FARTHEST_PLACE; y++) {
                if (joints.fits(x, y, error)) {
                    if (ahead == place) {
                        return PLACE_SCALE * (x + FARTHEST_PLACE) + y + FARTHEST_PLACE;
                    }
                    ahead++;
                }
            }
        }
        return NONE;
    }

    public int ofJoint(int joint, int what)
            throws IndexOutOfBoundsException, IllegalArgumentException {
        requireJoint(joint);
        switch (what) {
            case 0:
                return joints.x[joint];
            case 1:
                return joints.y[joint];
            case 2:
                return members.endingAt(joint);
            default:
                throw new IllegalArgumentException("no such number of a joint");
        }
    }

    // ---- what the calls ask of their arguments

    private void requireJoint(int joint) {
        if (!joints.has(joint)) {
            throw new IndexOutOfBoundsException("no such joint");
        }
    }

    private void requireMember(int member) {
        if (!members.has(member)) {
            throw new IndexOutOfBoundsException("no such member");
        }
    }

    private static void requireCount(int number) {
        if (number < 0) {
            throw new IndexOutOfBoundsException("a count from 0 is below 0");
        }
    }

    private static void requireTwo(int joint, int other) {
        if (joint == other) {
            throw new IllegalArgumentException("both joints are one");
        }
    }

    private static void requirePoint(int x, int y) {
        if (x < -FARTHEST_JOINT || x > FARTHEST_JOINT || y < -FARTHEST_JOINT || y > FARTHEST_JOINT) {
            throw new IllegalArgumentException("x or y is out of range");
        }
    }

    private void requireRoomForJoint() {
        if (joints.count >= MOST_JOINTS) {
            throw new IllegalStateException("there are 10 joints");
        }
    }

    private void requireRoomForMembers(int more) {
        if (members.count > MOST_MEMBERS - more) {
            throw new IllegalStateException("too many members were set");
        }
    }

    private static void requireLink(int link) {
        if (link < 0 || link > LONGEST_LINK) {
            throw new IllegalArgumentException("a link is out of range");
        }
    }

    private static void requireAngle(int angle) {
        if (angle < 1 || angle >= ROUND) {
            throw new IllegalArgumentException("an angle is out of range");
        }
    }

    private static void requireError(int error) {
        if (error < 0 || error > MOST_ERROR) {
            throw new IllegalArgumentException("error is out of range");
        }
    }

    // ---- ranks

    private int rankWithout(int skipped) {
        writeRows(skipped);
        return grid.reduce();
    }

    private void writeRows(int skipped) {
        int rows = members.present() - (members.has(skipped) ? 1 : 0);
        grid.begin(rows, layout.width);
        int row = 0;
        for (int member = 0; member < members.count; member++) {
            if (members.has(member) && member != skipped) {
                writeRow(row, members.from[member], members.to[member]);
                row++;
            }
        }
    }

    private void writeRow(int row, int from, int to) {
        int acrossX = layout.x[from] - layout.x[to];
        int acrossY = layout.y[from] - layout.y[to];
        writeEnd(row, layout.column[from], acrossX, acrossY);
        writeEnd(row, layout.column[to], -acrossX, -acrossY);
    }

    private void writeEnd(int row, int column, int acrossX, int acrossY) {
        if (column != NONE) {
            grid.add(row, column, acrossX);
            grid.add(row, column + 1, acrossY);
        }
    }

    // ---- in general

    private int keepWithout(int skipped) {
        pebbles.clear();
        keptSet = 0;
        for (int member = 0; member < members.count; member++) {
            if (members.has(member) && member != skipped
                    && pebbles.canCover(members.from[member], members.to[member])) {
                pebbles.cover(members.from[member], members.to[member]);
                keptSet |= 1L << member;
            }
        }
        return Long.bitCount(keptSet);
    }

    private boolean isFirm(int joint, int other) {
        return !pebbles.canCover(joint, other);
    }

    private int rigidCount() {
        return 2 * joints.count - 3;
    }

    /** Of the kept ones alone: without one that is not kept itself, as many are kept. */
    private boolean isRigidWithoutEachOf(long set) {
        for (int member = 0; member < members.count; member++) {
            if (hasBit(set, member) && keepWithout(member) < rigidCount()) {
                return false;
            }
        }
        return true;
    }

    private boolean isComplete() {
        return members.present() == joints.count * (joints.count - 1) / 2;
    }

    private boolean hangsWithoutAnyTwo() {
        for (int first = 0; first < joints.count; first++) {
            for (int second = first + 1; second < joints.count; second++) {
                if (!hangsTogether(joints.all() & ~bit(first) & ~bit(second))) {
                    return false;
                }
            }
        }
        return true;
    }

    private boolean hangsTogether(int set) {
        int reached = set & -set;
        for (int round = 0; round < joints.count && reached != set; round++) {
            reached = members.spread(reached, set);
        }
        return reached == set;
    }

    private static int bit(int joint) {
        return 1 << joint;
    }

    private static boolean hasBit(long set, int number) {
        return ((set >> number) & 1L) == 1L;
    }

    // ---- steps

    private boolean canBeUndone(int step) {
        int made = steps.joint[step];
        if (made != joints.count - 1 || joints.pinned[made]) {
            return false;
        }
        int bars = steps.bars(step);
        for (int i = 0; i < bars; i++) {
            if (!members.has(steps.firstBar[step] + i)) {
                return false;
            }
        }
        return members.endingAt(made) == bars;
    }

    private void bringBack(int member) {
        if (member != NONE && !members.join(members.from[member], members.to[member])) {
            members.gone[member] = false;
        }
    }

    // ---- told stresses

    private boolean isBalanced(int joint) {
        int sumX = 0;
        int sumY = 0;
        for (int member = 0; member < members.count; member++) {
            if (members.has(member) && members.endsAt(member, joint)) {
                int other = members.from[member] == joint ? members.to[member] : members.from[member];
                sumX += members.told[member] * (joints.x[other] - joints.x[joint]);
                sumY += members.told[member] * (joints.y[other] - joints.y[joint]);
            }
        }
        return sumX == 0 && sumY == 0;
    }

    /** The joints that there are, by their numbers. */
    private static final class Joints {
        final int[] x = new int[MOST_JOINTS];
        final int[] y = new int[MOST_JOINTS];
        final boolean[] pinned = new boolean[MOST_JOINTS];
        final int[] square = new int[MOST_JOINTS];
        int count = 0;

        boolean has(int number) {
            return number >= 0 && number < count;
        }

        int add(int atX, int atY) {
            if (count >= MOST_JOINTS) {
                return NONE;
            }
            // The number may have belonged to a joint of a step that was undone.
            x[count] = atX;
            y[count] = atY;
            pinned[count] = false;
            square[count] = NONE;
            count++;
            return count - 1;
        }

        void dropLast() {
            if (count > 0) {
                count--;
            }
        }

        int all() {
            return (1 << count) - 1;
        }

        boolean fits(int atX, int atY, int error) {
            for (int number = 0; number < count; number++) {
                if (square[number] != NONE) {
                    int acrossX = atX - x[number];
                    int acrossY = atY - y[number];
                    int off = acrossX * acrossX + acrossY * acrossY - square[number];
                    if (off > error || off < -error) {
                        return false;
                    }
                }
            }
            return true;
        }
    }

    /** The members that were ever set, by their numbers. */
    private static final class Members {
        final int[] from = new int[MOST_MEMBERS];
        final int[] to = new int[MOST_MEMBERS];
        final int[] kinds = new int[MOST_MEMBERS];
        final int[] told = new int[MOST_MEMBERS];
        final boolean[] gone = new boolean[MOST_MEMBERS];
        int count = 0;

        boolean has(int number) {
            return number >= 0 && number < count && !gone[number];
        }

        int add(int joint, int other, int kind) {
            if (count >= MOST_MEMBERS) {
                return NONE;
            }
            from[count] = joint;
            to[count] = other;
            kinds[count] = kind;
            count++;
            return count - 1;
        }

        int present() {
            return presentAhead(count);
        }

        int presentAhead(int number) {
            int found = 0;
            for (int ahead = 0; ahead < number; ahead++) {
                if (has(ahead)) {
                    found++;
                }
            }
            return found;
        }

        boolean endsAt(int number, int joint) {
            return from[number] == joint || to[number] == joint;
        }

        int endingAt(int joint) {
            int found = 0;
            for (int number = 0; number < count; number++) {
                if (has(number) && endsAt(number, joint)) {
                    found++;
                }
            }
            return found;
        }

        boolean join(int joint, int other) {
            for (int number = 0; number < count; number++) {
                if (has(number) && endsAt(number, joint) && endsAt(number, other)) {
                    return true;
                }
            }
            return false;
        }

        boolean isWronglyTold(int number) {
            return kinds[number] == CABLE && told[number] < 0
                    || kinds[number] == STRUT && told[number] > 0;
        }

        int spread(int reached, int set) {
            int wider = reached;
            for (int number = 0; number < count; number++) {
                int ends = bit(from[number]) | bit(to[number]);
                if (has(number) && (ends & set) == ends && (ends & wider) != 0) {
                    wider |= ends;
                }
            }
            return wider;
        }
    }

    /** The steps that were not undone: no more than joints, as each made one that is still there. */
    private static final class Steps {
        final int[] joint = new int[MOST_JOINTS];
        final int[] firstBar = new int[MOST_JOINTS];
        final int[] splitMember = new int[MOST_JOINTS];
        int count = 0;

        void add(int made, int bar, int member) {
            if (count < MOST_JOINTS) {
                joint[count] = made;
                firstBar[count] = bar;
                splitMember[count] = member;
                count++;
            }
        }

        int bars(int step) {
            return splitMember[step] == NONE ? GROW_BARS : SPLIT_BARS;
        }

        void dropLast() {
            if (count > 0) {
                count--;
            }
        }
    }

    /** Where the joints are and which columns they have, as one matrix takes them. */
    private static final class Layout {
        final int[] x = new int[MOST_JOINTS];
        final int[] y = new int[MOST_JOINTS];
        final int[] column = new int[MOST_JOINTS];
        int width = 0;

        void takeJoints(Joints joints) {
            width = 0;
            for (int number = 0; number < joints.count; number++) {
                x[number] = joints.x[number];
                y[number] = joints.y[number];
                if (joints.pinned[number]) {
                    column[number] = NONE;
                } else {
                    column[number] = width;
                    width += 2;
                }
            }
        }

        void drawPoints(int count, int firstSeed) {
            int seed = firstSeed;
            for (int number = 0; number < count && number < MOST_JOINTS; number++) {
                seed = nextSeed(seed);
                x[number] = cube(seed);
                seed = nextSeed(seed);
                y[number] = cube(seed);
                column[number] = 2 * number;
            }
            width = 2 * count;
        }

        private static int nextSeed(int seed) {
            return (int) (((long) DRAW_FACTOR * seed + DRAW_OFFSET) % PRIME);
        }

        private static int cube(int seed) {
            long square = (long) seed * seed % PRIME;
            return (int) (square * seed % PRIME);
        }
    }

    /** A matrix modulo the prime. */
    private static final class Grid {
        private static final int SIDE = MOST_MEMBERS;

        private final long[][] cells = new long[SIDE][SIDE];
        private final int[] pivotRow = new int[SIDE];
        private int rows = 0;
        private int columns = 0;

        void begin(int height, int width) {
            rows = Math.min(Math.max(height, 0), SIDE);
            columns = Math.min(Math.max(width, 0), SIDE);
            // Turning swaps whole squares, so that a square is cleared.
            int side = Math.max(rows, columns);
            for (int row = 0; row < side; row++) {
                for (int column = 0; column < side; column++) {
                    cells[row][column] = 0;
                }
            }
        }

        void add(int row, int column, int value) {
            if (row >= 0 && row < rows && column >= 0 && column < columns) {
                cells[row][column] = Math.floorMod(cells[row][column] + value, (long) PRIME);
            }
        }

        void turn() {
            int side = Math.max(rows, columns);
            for (int row = 0; row < side; row++) {
                for (int column = 0; column < row; column++) {
                    long cell = cells[row][column];
                    cells[row][column] = cells[column][row];
                    cells[column][row] = cell;
                }
            }
            int height = rows;
            rows = columns;
            columns = height;
        }

        /** Afterwards a column that depends on those ahead of it has no pivot, each other has one. */
        int reduce() {
            int found = 0;
            for (int column = 0; column < columns; column++) {
                int row = rowWith(column, found);
                pivotRow[column] = NONE;
                if (row != NONE) {
                    swapRows(row, found);
                    scaleRow(found, column);
                    clearColumn(found, column);
                    pivotRow[column] = found;
                    found++;
                }
            }
            return found;
        }

        int freeColumn(int k) {
            int ahead = 0;
            for (int column = 0; column < columns; column++) {
                if (pivotRow[column] == NONE) {
                    if (ahead == k) {
                        return column;
                    }
                    ahead++;
                }
            }
            return NONE;
        }

        int solution(int free, int column) {
            if (column == free) {
                return 1;
            }
            if (free < 0 || free >= columns || column < 0 || column >= columns) {
                return 0;
            }
            int row = pivotRow[column];
            return row == NONE ? 0 : (int) ((PRIME - cells[row][free]) % PRIME);
        }

        private int rowWith(int column, int first) {
            for (int row = first; row < rows; row++) {
                if (cells[row][column] != 0) {
                    return row;
                }
            }
            return NONE;
        }

        private void swapRows(int row, int other) {
            for (int column = 0; column < columns; column++) {
                long cell = cells[row][column];
                cells[row][column] = cells[other][column];
                cells[other][column] = cell;
            }
        }

        private void scaleRow(int row, int pivot) {
            long factor = inverse(cells[row][pivot]);
            for (int column = pivot; column < columns; column++) {
                cells[row][column] = cells[row][column] * factor % PRIME;
            }
        }

        private void clearColumn(int row, int pivot) {
            for (int other = 0; other < rows; other++) {
                long factor = cells[other][pivot];
                if (other != row && factor != 0) {
                    takeOff(other, row, PRIME - factor);
                }
            }
        }

        private void takeOff(int row, int other, long factor) {
            for (int column = 0; column < columns; column++) {
                cells[row][column] = (cells[row][column] + factor * cells[other][column]) % PRIME;
            }
        }

        /** By Fermat: the power two below the prime. */
        private static long inverse(long value) {
            long power = 1;
            long square = value;
            for (int left = PRIME - 2; left > 0; left >>= 1) {
                if ((left & 1) == 1) {
                    power = power * square % PRIME;
                }
                square = square * square % PRIME;
            }
            return power;
        }
    }

    /**
     * Each joint has two pebbles; a kept member is covered by one pebble of one of its ends, and
     * leads away from that end. A member is independent of those covered just if all four pebbles
     * of its ends can be freed at once by covering others from their other ends.
     */
    private static final class Pebbles {
        private final int[] leadsTo = new int[2 * MOST_JOINTS];
        private final int[] cameBy = new int[MOST_JOINTS];
        private final int[] queue = new int[MOST_JOINTS];

        void clear() {
            for (int pebble = 0; pebble < leadsTo.length; pebble++) {
                leadsTo[pebble] = NONE;
            }
        }

        /** Afterwards all four pebbles are free, if it is so. */
        boolean canCover(int joint, int other) {
            return freeBoth(joint, other) && freeBoth(other, joint);
        }

        void cover(int joint, int other) {
            leadsTo[2 * joint] = other;
        }

        private boolean freeBoth(int joint, int other) {
            for (int round = 0; round < 2 && !hasBoth(joint); round++) {
                if (!fetch(joint, other)) {
                    return false;
                }
            }
            return hasBoth(joint);
        }

        private boolean hasBoth(int joint) {
            return leadsTo[2 * joint] == NONE && leadsTo[2 * joint + 1] == NONE;
        }

        /** Frees one more pebble of a joint, but takes none from the other one. */
        private boolean fetch(int joint, int other) {
            for (int number = 0; number < MOST_JOINTS; number++) {
                cameBy[number] = NONE;
            }
            int seen = bit(joint);
            int length = 1;
            queue[0] = joint;
            for (int at = 0; at < length && at < MOST_JOINTS; at++) {
                for (int pebble = 2 * queue[at]; pebble <= 2 * queue[at] + 1; pebble++) {
                    int next = leadsTo[pebble];
                    if (next != NONE && !hasBit(seen, next) && length < MOST_JOINTS) {
                        seen |= bit(next);
                        cameBy[next] = pebble;
                        int free = next == other ? NONE : freePebble(next);
                        if (free != NONE) {
                            passBack(next, free, joint);
                            return true;
                        }
                        queue[length] = next;
                        length++;
                    }
                }
            }
            return false;
        }

        private int freePebble(int joint) {
            if (leadsTo[2 * joint] == NONE) {
                return 2 * joint;
            }
            return leadsTo[2 * joint + 1] == NONE ? 2 * joint + 1 : NONE;
        }

        private void passBack(int found, int spare, int joint) {
            int at = found;
            int free = spare;
            for (int round = 0; round < MOST_JOINTS && at != joint; round++) {
                int pebble = cameBy[at];
                if (pebble == NONE) {
                    return;
                }
                leadsTo[free] = pebble / 2;
                leadsTo[pebble] = NONE;
                free = pebble;
                at = pebble / 2;
            }
        }
    }
}
