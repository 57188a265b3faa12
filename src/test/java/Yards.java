/** Yards that tests start from; each call makes a new one. */
final class Yards {
    private Yards() {
    }

    /** Joints that lie apart, no three on a line, without members. */
    static Stresswork loose(int count) {
        Stresswork yard = new Stresswork();
        for (int i = 0; i < count; i++) {
            yard.joint(3 * i, i * i - 40);
        }
        return yard;
    }

    /** Joints 0 to 3 around a square, its four sides as members 0 to 3. */
    static Stresswork square() {
        Stresswork yard = new Stresswork();
        yard.joint(0, 0);
        yard.joint(20, 0);
        yard.joint(20, 20);
        yard.joint(0, 20);
        for (int i = 0; i < 4; i++) {
            yard.member(i, (i + 1) % 4, Stresswork.BAR);
        }
        return yard;
    }

    /** The square with both diagonals, members 4 and 5. */
    static Stresswork braced() {
        Stresswork yard = square();
        yard.member(0, 2, Stresswork.CABLE);
        yard.member(1, 3, Stresswork.STRUT);
        return yard;
    }

    /** A braced square that was grown, split, pinned and told of; members 1 and 6 are gone. */
    static Stresswork busy() {
        Stresswork yard = braced();
        yard.remove(1);
        yard.pin(3, true);
        yard.stress(4, 8);
        yard.range(2, 90);
        yard.grow(0, 2, -5, 9);
        yard.split(6, 1, 7, -3);
        return yard;
    }

    /** Each two joints have a member, by rising numbers. */
    static Stresswork complete(int count) {
        return joined(count, count * (count - 1) / 2);
    }

    /** Ten joints and forty members, all that there can be. */
    static Stresswork full() {
        return joined(10, 40);
    }

    private static Stresswork joined(int count, int members) {
        Stresswork yard = loose(count);
        int left = members;
        for (int i = 0; i < count; i++) {
            for (int j = i + 1; j < count && left > 0; j++) {
                yard.member(i, j, Stresswork.BAR);
                left--;
            }
        }
        return yard;
    }

    /** Four joints, with so many members set between joints 0 and 1, all but the last one gone. */
    static Stresswork used(int members) {
        return usedOf(4, members);
    }

    static Stresswork usedOf(int joints, int members) {
        Stresswork yard = loose(joints);
        for (int i = 0; i < members; i++) {
            if (i > 0) {
                yard.remove(i - 1);
            }
            yard.member(0, 1, Stresswork.BAR);
        }
        return yard;
    }

    /** A hub, joint 0, with spokes to a rim of joints, then the rim: no less members depend on one another. */
    static Stresswork wheel(int rim) {
        Stresswork yard = loose(rim + 1);
        for (int i = 1; i <= rim; i++) {
            yard.member(0, i, Stresswork.BAR);
        }
        for (int i = 1; i <= rim; i++) {
            yard.member(i, i % rim + 1, Stresswork.BAR);
        }
        return yard;
    }

    /** Two complete frames of four joints that have two joints in common: rigid, also without any one. */
    static Stresswork hinged() {
        Stresswork yard = complete(4);
        yard.joint(-30, 1);
        yard.joint(-33, 5);
        for (int i = 0; i < 2; i++) {
            for (int j = 4; j < 6; j++) {
                yard.member(i, j, Stresswork.BAR);
            }
        }
        yard.member(4, 5, Stresswork.BAR);
        return yard;
    }

    /** Two triangles with three members between them: nine, as many as six joints need. */
    static Stresswork prism() {
        Stresswork yard = loose(6);
        for (int i = 0; i < 3; i++) {
            yard.member(i, (i + 1) % 3, Stresswork.BAR);
            yard.member(3 + i, 3 + (i + 1) % 3, Stresswork.BAR);
            yard.member(i, 3 + i, Stresswork.BAR);
        }
        return yard;
    }

    static void pinAll(Stresswork yard, int joints) {
        for (int i = 0; i < joints; i++) {
            yard.pin(i, true);
        }
    }
}
