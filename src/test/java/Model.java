import java.util.ArrayList;
import java.util.List;

/**
 * The document once more, written as plainly as its words and in other ways than the program: sets
 * of joints are counted one by one, ranks are of rows that are looked at one behind the other.
 */
final class Model {
    static final int PRIME = 1000003;

    static final class Member {
        final int from;
        final int to;
        final int kind;
        int stress = 0;
        boolean gone = false;

        Member(int from, int to, int kind) {
            this.from = from;
            this.to = to;
            this.kind = kind;
        }

        boolean has(int joint) {
            return from == joint || to == joint;
        }
    }

    static final class Joint {
        int x;
        int y;
        boolean pinned = false;
        int square = -1;

        Joint(int x, int y) {
            this.x = x;
            this.y = y;
        }
    }

    static final class Step {
        final int joint;
        final List<Member> bars = new ArrayList<>();
        Member split = null;

        Step(int joint) {
            this.joint = joint;
        }
    }

    final List<Joint> joints = new ArrayList<>();
    final List<Member> members = new ArrayList<>();
    final List<Step> steps = new ArrayList<>();

    // ---- what is told

    private void index(boolean right) {
        if (!right) {
            throw new IndexOutOfBoundsException();
        }
    }

    private void argument(boolean right) {
        if (!right) {
            throw new IllegalArgumentException();
        }
    }

    private void state(boolean right) {
        if (!right) {
            throw new IllegalStateException();
        }
    }

    boolean isJoint(int joint) {
        return 0 <= joint && joint < joints.size();
    }

    boolean isMember(int member) {
        return 0 <= member && member < members.size() && !members.get(member).gone;
    }

    private static boolean within(int value, int least, int most) {
        return least <= value && value <= most;
    }

    private static boolean isPoint(int x, int y) {
        return within(x, -50, 50) && within(y, -50, 50);
    }

    List<Member> present() {
        List<Member> list = new ArrayList<>();
        for (Member member : members) {
            if (!member.gone) {
                list.add(member);
            }
        }
        return list;
    }

    private Member between(int joint, int other) {
        for (Member member : present()) {
            if (member.has(joint) && member.has(other)) {
                return member;
            }
        }
        return null;
    }

    int joint(int x, int y) {
        argument(isPoint(x, y));
        state(joints.size() < 10);
        joints.add(new Joint(x, y));
        return joints.size() - 1;
    }

    int move(int joint, int x, int y) {
        index(isJoint(joint));
        argument(isPoint(x, y));
        joints.get(joint).x = x;
        joints.get(joint).y = y;
        return 0;
    }

    boolean pin(int joint, boolean pinned) {
        index(isJoint(joint));
        boolean before = joints.get(joint).pinned;
        joints.get(joint).pinned = pinned;
        return before;
    }

    int member(int joint, int other, int kind) {
        index(isJoint(joint) && isJoint(other));
        argument(joint != other && within(kind, 0, 2));
        state(between(joint, other) == null && members.size() < 40);
        members.add(new Member(joint, other, kind));
        return members.size() - 1;
    }

    int remove(int member) {
        index(isMember(member));
        members.get(member).gone = true;
        return present().size();
    }

    // ---- ranks

    private long[] row(Member member, List<long[]> points, boolean noPins) {
        long[] row = new long[2 * joints.size()];
        for (int end : new int[] {member.from, member.to}) {
            int other = end == member.from ? member.to : member.from;
            if (noPins || !joints.get(end).pinned) {
                row[2 * end] = Math.floorMod(points.get(end)[0] - points.get(other)[0], PRIME);
                row[2 * end + 1] = Math.floorMod(points.get(end)[1] - points.get(other)[1], PRIME);
            }
        }
        return row;
    }

    private List<long[]> points() {
        List<long[]> points = new ArrayList<>();
        for (Joint joint : joints) {
            points.add(new long[] {joint.x, joint.y});
        }
        return points;
    }

    private List<long[]> rows(Member without) {
        List<long[]> rows = new ArrayList<>();
        for (Member member : present()) {
            if (member != without) {
                rows.add(row(member, points(), false));
            }
        }
        return rows;
    }

    private List<Integer> columns() {
        List<Integer> columns = new ArrayList<>();
        for (int joint = 0; joint < joints.size(); joint++) {
            if (!joints.get(joint).pinned) {
                columns.add(2 * joint);
                columns.add(2 * joint + 1);
            }
        }
        return columns;
    }

    private static long inverse(long value) {
        // By Euclid.
        long a = value;
        long b = PRIME;
        long u = 1;
        long v = 0;
        while (b != 0) {
            long q = a / b;
            long t = a - q * b;
            a = b;
            b = t;
            t = u - q * v;
            u = v;
            v = t;
        }
        return Math.floorMod(u, PRIME);
    }

    /** For each row whether it depends on those ahead of it. */
    static boolean[] depend(List<long[]> rows) {
        boolean[] depend = new boolean[rows.size()];
        List<long[]> base = new ArrayList<>();
        List<Integer> leads = new ArrayList<>();
        for (int i = 0; i < rows.size(); i++) {
            long[] left = rows.get(i).clone();
            for (int j = 0; j < base.size(); j++) {
                long factor = left[leads.get(j)];
                for (int c = 0; c < left.length; c++) {
                    left[c] = Math.floorMod(left[c] - factor * base.get(j)[c], PRIME);
                }
            }
            int lead = 0;
            while (lead < left.length && left[lead] == 0) {
                lead++;
            }
            depend[i] = lead == left.length;
            if (!depend[i]) {
                long factor = inverse(left[lead]);
                for (int c = 0; c < left.length; c++) {
                    left[c] = left[c] * factor % PRIME;
                }
                base.add(left);
                leads.add(lead);
            }
        }
        return depend;
    }

    static int rankOf(List<long[]> rows) {
        int rank = 0;
        for (boolean depends : depend(rows)) {
            if (!depends) {
                rank++;
            }
        }
        return rank;
    }

    int rank() {
        return rankOf(rows(null));
    }

    int motions() {
        return columns().size() - rank();
    }

    int stresses() {
        return present().size() - rank();
    }

    boolean isRedundant(int member) {
        index(isMember(member));
        return rankOf(rows(members.get(member))) == rank();
    }

    static List<long[]> turned(List<long[]> rows, List<Integer> columns) {
        List<long[]> turned = new ArrayList<>();
        for (int column : columns) {
            long[] line = new long[rows.size()];
            for (int i = 0; i < line.length; i++) {
                line[i] = rows.get(i)[column];
            }
            turned.add(line);
        }
        return turned;
    }

    /** Whether numbers of one more line each are what is promised of the k-th free line's. */
    static boolean isAnswer(List<long[]> lines, int k, long[] numbers) {
        boolean[] free = depend(lines);
        int ahead = 0;
        int width = lines.isEmpty() ? 0 : lines.get(0).length;
        long[] sum = new long[width];
        for (int i = 0; i < free.length; i++) {
            if (numbers[i] < 0 || numbers[i] >= PRIME) {
                return false;
            }
            if (free[i]) {
                if (numbers[i] != (ahead == k ? 1 : 0)) {
                    return false;
                }
                ahead++;
            }
            for (int c = 0; c < width; c++) {
                sum[c] = (sum[c] + numbers[i] * lines.get(i)[c]) % PRIME;
            }
        }
        for (long number : sum) {
            if (number != 0) {
                return false;
            }
        }
        return ahead > k;
    }

    boolean isFlex(int k, long[] movesOfColumns) {
        return isAnswer(turned(rows(null), columns()), k, movesOfColumns);
    }

    boolean isBalance(int k, long[] numbersOfMembers) {
        return isAnswer(rows(null), k, numbersOfMembers);
    }

    int rankAt(int seed) {
        argument(within(seed, 0, PRIME - 1));
        List<long[]> points = new ArrayList<>();
        long now = seed;
        for (int i = 0; i < joints.size(); i++) {
            long[] point = new long[2];
            for (int c = 0; c < 2; c++) {
                now = (1103 * now + 12345) % PRIME;
                point[c] = now * now % PRIME * now % PRIME;
            }
            points.add(point);
        }
        List<long[]> rows = new ArrayList<>();
        for (Member member : present()) {
            rows.add(row(member, points, true));
        }
        return rankOf(rows);
    }

    // ---- in general

    private boolean independent(List<int[]> pairs) {
        for (int set = 0; set < 1 << joints.size(); set++) {
            int size = Integer.bitCount(set);
            if (size >= 2) {
                int count = 0;
                for (int[] pair : pairs) {
                    if ((set >> pair[0] & set >> pair[1] & 1) == 1) {
                        count++;
                    }
                }
                if (count > 2 * size - 3) {
                    return false;
                }
            }
        }
        return true;
    }

    private static int[] pair(Member member) {
        return new int[] {member.from, member.to};
    }

    private boolean independentWith(List<Member> list, int joint, int other) {
        List<int[]> pairs = new ArrayList<>();
        for (Member member : list) {
            pairs.add(pair(member));
        }
        pairs.add(new int[] {joint, other});
        return independent(pairs);
    }

    List<Member> keptOf(List<Member> list) {
        List<Member> kept = new ArrayList<>();
        for (Member member : list) {
            if (independentWith(kept, member.from, member.to)) {
                kept.add(member);
            }
        }
        return kept;
    }

    int kept() {
        return keptOf(present()).size();
    }

    boolean isKept(int member) {
        index(isMember(member));
        return keptOf(present()).contains(members.get(member));
    }

    int block(int member) {
        index(isMember(member));
        List<Member> kept = keptOf(present());
        Member asked = members.get(member);
        int set = 1 << asked.from | 1 << asked.to;
        for (int joint = 0; joint < joints.size(); joint++) {
            if (!asked.has(joint) && firm(kept, joint, asked.from) && firm(kept, joint, asked.to)) {
                set |= 1 << joint;
            }
        }
        return set;
    }

    private boolean firm(List<Member> kept, int joint, int other) {
        for (Member member : kept) {
            if (member.has(joint) && member.has(other)) {
                return true;
            }
        }
        return !independentWith(kept, joint, other);
    }

    int lacks() {
        return joints.size() < 2 ? -1 : 2 * joints.size() - 3 - kept();
    }

    boolean isGlobal() {
        boolean all = true;
        for (int i = 0; i < joints.size(); i++) {
            for (int j = 0; j < i; j++) {
                all &= between(i, j) != null;
            }
        }
        if (all) {
            return true;
        }
        int rigid = 2 * joints.size() - 3;
        if (joints.size() < 4 || kept() != rigid) {
            return false;
        }
        for (Member member : present()) {
            List<Member> others = present();
            others.remove(member);
            if (keptOf(others).size() != rigid) {
                return false;
            }
        }
        for (int i = 0; i < joints.size(); i++) {
            for (int j = 0; j < i; j++) {
                if (!together(i, j)) {
                    return false;
                }
            }
        }
        return true;
    }

    private boolean together(int without, int andWithout) {
        int[] group = new int[joints.size()];
        for (int i = 0; i < group.length; i++) {
            group[i] = i;
        }
        for (Member member : present()) {
            if (!member.has(without) && !member.has(andWithout)) {
                int old = group[member.from];
                for (int i = 0; i < group.length; i++) {
                    if (group[i] == old) {
                        group[i] = group[member.to];
                    }
                }
            }
        }
        int seen = -1;
        for (int i = 0; i < group.length; i++) {
            if (i != without && i != andWithout) {
                if (seen != -1 && group[i] != seen) {
                    return false;
                }
                seen = group[i];
            }
        }
        return true;
    }

    // ---- steps

    private void bar(Step step, int from) {
        Member bar = new Member(from, step.joint, 0);
        step.bars.add(bar);
        members.add(bar);
    }

    private Step step(int x, int y) {
        joints.add(new Joint(x, y));
        Step step = new Step(joints.size() - 1);
        steps.add(step);
        return step;
    }

    int grow(int joint, int other, int x, int y) {
        index(isJoint(joint) && isJoint(other));
        argument(joint != other && isPoint(x, y));
        state(joints.size() < 10 && members.size() <= 38);
        Step step = step(x, y);
        bar(step, joint);
        bar(step, other);
        return step.joint;
    }

    int split(int member, int joint, int x, int y) {
        index(isMember(member) && isJoint(joint));
        Member old = members.get(member);
        argument(!old.has(joint) && isPoint(x, y));
        state(joints.size() < 10 && members.size() <= 37);
        Step step = step(x, y);
        step.split = old;
        old.gone = true;
        bar(step, old.from);
        bar(step, old.to);
        bar(step, joint);
        return step.joint;
    }

    int undo() {
        state(!steps.isEmpty());
        Step step = steps.get(steps.size() - 1);
        state(step.joint == joints.size() - 1 && !joints.get(step.joint).pinned);
        List<Member> there = new ArrayList<>();
        for (Member member : present()) {
            if (member.has(step.joint)) {
                there.add(member);
            }
        }
        state(there.equals(step.bars));
        for (Member bar : step.bars) {
            bar.gone = true;
        }
        joints.remove(step.joint);
        steps.remove(step);
        if (step.split != null && between(step.split.from, step.split.to) == null) {
            step.split.gone = false;
        }
        return steps.size();
    }

    // ---- told stresses

    int stress(int member, int stress) {
        index(isMember(member));
        argument(within(stress, -99, 99));
        int before = members.get(member).stress;
        members.get(member).stress = stress;
        return before;
    }

    int unbalanced() {
        int set = 0;
        for (int joint = 0; joint < joints.size(); joint++) {
            int sumX = 0;
            int sumY = 0;
            for (Member member : present()) {
                if (member.has(joint)) {
                    Joint other = joints.get(member.from + member.to - joint);
                    sumX += member.stress * (other.x - joints.get(joint).x);
                    sumY += member.stress * (other.y - joints.get(joint).y);
                }
            }
            if (!joints.get(joint).pinned && (sumX != 0 || sumY != 0)) {
                set += 1 << joint;
            }
        }
        return set;
    }

    boolean isProper() {
        boolean some = false;
        for (Member member : present()) {
            if (member.kind == 1 && member.stress < 0 || member.kind == 2 && member.stress > 0) {
                return false;
            }
            some |= member.stress != 0;
        }
        return some && unbalanced() == 0;
    }

    int matrix() {
        List<long[]> rows = new ArrayList<>();
        for (int i = 0; i < joints.size(); i++) {
            long[] row = new long[joints.size()];
            for (int j = 0; j < row.length; j++) {
                Member member = i == j ? null : between(i, j);
                if (member != null) {
                    row[j] = Math.floorMod(-member.stress, PRIME);
                    row[i] = Math.floorMod(row[i] + member.stress, PRIME);
                }
            }
            rows.add(row);
        }
        return rankOf(rows);
    }

    // ---- chains, sheets, places

    boolean reaches(int a, int b, int c, int distance) {
        argument(within(a, 0, 1000000) && within(b, 0, 1000000) && within(c, 0, 1000000));
        argument(within(distance, 0, 3000000));
        int least = Math.max(0, Math.max(a - b - c, Math.max(b - a - c, c - a - b)));
        return within(distance, least, a + b + c);
    }

    int folds(int a, int b, int c, int d, int mountains) {
        argument(within(a, 1, 359) && within(b, 1, 359) && within(c, 1, 359) && within(d, 1, 359));
        argument(within(mountains, 0, 15));
        if (a + b + c + d != 360) {
            return 1;
        }
        if (a + c != 180) {
            return 2;
        }
        int count = (mountains & 1) + (mountains >> 1 & 1) + (mountains >> 2 & 1) + (mountains >> 3);
        return count % 2 == 1 ? 0 : 3;
    }

    int range(int joint, int square) {
        index(isJoint(joint));
        argument(within(square, -1, 30000));
        int before = joints.get(joint).square;
        joints.get(joint).square = square;
        return before;
    }

    private List<Integer> fitting(int error) {
        List<Integer> list = new ArrayList<>();
        for (int code = 0; code < 121 * 121; code++) {
            int x = code / 121 - 60;
            int y = code % 121 - 60;
            boolean fits = true;
            for (Joint joint : joints) {
                if (joint.square != -1) {
                    int square = (x - joint.x) * (x - joint.x) + (y - joint.y) * (y - joint.y);
                    fits &= Math.abs(square - joint.square) <= error;
                }
            }
            if (fits) {
                list.add(1000 * (x + 60) + (y + 60));
            }
        }
        return list;
    }

    int places(int error) {
        argument(within(error, 0, 5000));
        return fitting(error).size();
    }

    int place(int error, int place) {
        index(place >= 0);
        argument(within(error, 0, 5000));
        List<Integer> list = fitting(error);
        return place < list.size() ? list.get(place) : -1;
    }

    int ofJoint(int joint, int what) {
        index(isJoint(joint));
        argument(within(what, 0, 2));
        if (what == 2) {
            int count = 0;
            for (Member member : present()) {
                count += member.has(joint) ? 1 : 0;
            }
            return count;
        }
        return what == 0 ? joints.get(joint).x : joints.get(joint).y;
    }
}
