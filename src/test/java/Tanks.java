import java.util.ArrayList;
import java.util.List;

/** What the tests of calls have in common: the numbers of the document, ways to make tanks, and all that a tank tells. */
abstract class Tanks {
    static final int NO_SUCH = -1, BAD_VALUE = -2, BAD_TEXT = -3, TOO_MANY = -4, NOT_POSSIBLE = -5, NONE = -6;
    static final int NO_SUCH_GONE = -1000000001, BAD_VALUE_GONE = -1000000002;
    static final int TOP = 0, BOTTOM = 1;
    static final int SHEAR = 0, WALL = 1, WALL_SPEED = 2, FLOOR = 3, FLOOR_SPEED = 4, EKMAN = 5, MIX = 6;
    static final int LEAST = Integer.MIN_VALUE, GREATEST = Integer.MAX_VALUE;

    /** A tank in which nothing changes a velocity, without pushes and mixing. */
    static DyeTank still(int rings) {
        DyeTank x = new DyeTank();
        x.setUp(rings);
        x.set(SHEAR, 0);
        x.set(WALL, 0);
        x.set(FLOOR, 0);
        x.set(EKMAN, 0);
        x.set(MIX, 0);
        return x;
    }

    /** A still tank whose pushes are the velocities of its rings. */
    static DyeTank pushing(int rings) {
        DyeTank x = still(rings);
        x.set(EKMAN, 100);
        return x;
    }

    /** Brings a tank of the time 0 to the greatest time, in a hundred calls. */
    static void makeOld(DyeTank x) {
        for (int calls = 0; calls < 100; calls++) {
            x.tick(1000);
        }
    }

    static void pourMost(DyeTank x, int colour, int layer, int ring, int sector) {
        for (int calls = 0; calls < 10; calls++) {
            x.pour(colour, layer, ring, sector, 1000000);
        }
    }

    /** All that can be asked of a tank but its pad, thus all that a slot keeps. */
    static List<Long> everything(DyeTank x) {
        List<Long> numbers = new ArrayList<>();
        for (int what = 0; what < 13; what++) {
            numbers.add(what == 5 ? 0L : x.state(what));
        }
        for (int ring = 0; ring < x.state(1); ring++) {
            for (int what = 0; what < 7; what++) {
                numbers.add((long) x.ring(ring, what));
            }
            addDyes(numbers, x, ring);
        }
        for (int what = 0; what < 18; what++) {
            numbers.add(x.colour(what / 6, what % 6));
        }
        for (int marker = 0; marker < x.state(2); marker++) {
            addMarker(numbers, x, marker);
        }
        return numbers;
    }

    private static void addDyes(List<Long> numbers, DyeTank x, int ring) {
        for (int colour = 0; colour < 3; colour++) {
            for (int sector = 0; sector < 24; sector++) {
                numbers.add((long) x.dye(colour, TOP, ring, sector));
                numbers.add((long) x.dye(colour, BOTTOM, ring, sector));
            }
        }
    }

    private static void addMarker(List<Long> numbers, DyeTank x, int marker) {
        for (int what = 0; what < 5; what++) {
            numbers.add((long) x.where(marker, what));
        }
        for (int back = 0; back < 50; back++) {
            numbers.add((long) x.path(marker, back, 0));
            numbers.add((long) x.path(marker, back, 1));
        }
    }
}
