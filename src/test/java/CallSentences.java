import java.util.List;

/** The promises 1 to 7: the calls that make and change the tank. */
final class CallSentences extends Sentences {
    static void test() {
        newObject();
        setUp();
        setUpAnswers();
        set();
        spin();
        spinAll();
        pour();
        pourAnswers();
        tick();
    }

    private static void dueAtRest(DyeTank x, int rings) {
        int[] states = {0, rings, 0, 0, 0};
        int[] settings = {20, 10, 0, 5, 0, 50, 20};
        for (int what = 0; what < 5; what++) {
            due("state(" + what + ")", states[what], x.state(what));
        }
        for (int setting = 0; setting < 7; setting++) {
            due("setting " + setting, settings[setting], x.state(6 + setting));
        }
        for (int ring = 0; ring < rings; ring++) {
            due("the momentum of " + ring, 0, x.ring(ring, 1));
            due("the angle of " + ring, 0, x.ring(ring, 2));
        }
        for (int colour = 0; colour < 3; colour++) {
            due("how much of the colour " + colour, 0, x.colour(colour, 0));
            due("cells with the colour " + colour, 0, x.colour(colour, 2));
        }
        due("no ring beyond", NO_SUCH_GONE, x.ring(rings, 0));
        due("no marker", NO_SUCH, x.where(0, 0));
    }

    private static void newObject() {
        promise(1);
        of("Creates a tank of 6 rings at rest, without dye and markers, at the time 0.");
        DyeTank x = new DyeTank();
        dueAtRest(x, 6);
        due("an empty pad", 0, x.state(5));
        due("nothing in the slot 0", NOT_POSSIBLE, x.restore(0));
        due("nothing in the slot 1", NOT_POSSIBLE, x.restore(1));
        DyeTank other = used();
        other.say('t');
        other.save(0);
        dueAtRest(x, 6);
        due("not the pad of another object", 0, x.state(5));
        due("not the slot of another object", NOT_POSSIBLE, x.restore(0));
    }

    /** A tank of 6 rings with something of all that setUp() takes away, at the time 9. */
    private static DyeTank used() {
        DyeTank x = new DyeTank();
        for (int setting = 0; setting < 7; setting++) {
            x.set(setting, 33);
        }
        x.spinAll(500, -100);
        for (int colour = 0; colour < 3; colour++) {
            x.pour(colour, TOP, 5, 3, 1000);
            x.pour(colour, BOTTOM, 0, 3, 1000);
        }
        x.marker(5001, 20);
        x.marker(5999, 20);
        x.tick(9);
        return x;
    }

    private static void setUp() {
        promise(2);
        of("Makes a new tank at rest, without dye and markers, with all settings as initially, at the time 0.");
        for (int rings : new int[] {2, 6, 12}) {
            DyeTank x = used();
            due("a marker that was in another ring", 1, x.where(0, 4));
            x.setUp(rings);
            dueAtRest(x, rings);
            due("a first marker", 0, x.marker(0, 0));
            due("of which nothing is kept", 0, x.where(0, 3));
            due("that was in no other ring", 0, x.where(0, 4));
        }
        of("(The pad and the slots stay.)");
        DyeTank x = used();
        x.save(1);
        List<Long> before = everything(x);
        say(x, "t12");
        x.setUp(2);
        due("the length of the pad", 3, x.state(5));
        due("its text is carried out", 1, x.carryOut());
        due("the ticks of its text", 12, x.state(0));
        due("the slot 1", 9, x.restore(1));
        dueSame("what the slot 1 has", before, everything(x));
        x.setUp(3);
        due("the slot 0 has nothing", NOT_POSSIBLE, x.restore(0));
    }

    private static void setUpAnswers() {
        of("- `rings`: 2 to 12");
        DyeTank x = new DyeTank();
        for (int rings = 2; rings <= 12; rings++) {
            x.setUp(rings);
            due("rings", rings, x.state(1));
        }
        of("Returns the number of rings that there were;");
        x = new DyeTank();
        due("six at first", 6, x.setUp(2));
        due("the least", 2, x.setUp(12));
        due("the most", 12, x.setUp(12));
        x.setUp(13);
        due("the same behind a call that failed", 12, x.setUp(6));
        of("BAD_VALUE if rings is out of range.");
        x = used();
        List<Long> before = everything(x);
        for (int rings : new int[] {1, 0, -1, -2, 13, LEAST, GREATEST}) {
            due("setUp(" + rings + ")", BAD_VALUE, x.setUp(rings));
        }
        dueSame("the tank stays", before, everything(x));
    }

    private static void set() {
        promise(3);
        int[] least = {0, 0, -1500, 0, -1500, 0, 0};
        int[] greatest = {100, 100, 1500, 100, 1500, 200, 500};
        of("Changes a setting.");
        DyeTank x = new DyeTank();
        x.set(WALL_SPEED, -900);
        int[] others = {20, 10, -900, 5, 0, 50, 20};
        for (int setting = 0; setting < 7; setting++) {
            due("setting " + setting, others[setting], x.state(6 + setting));
        }
        x.tick(1);
        due("from then on", -90, x.ring(5, 1));
        of("- `setting`: the setting");
        x = new DyeTank();
        for (int setting = 0; setting < 7; setting++) {
            x.set(setting, 61 + setting);
        }
        for (int setting = 0; setting < 7; setting++) {
            due("setting " + setting, 61 + setting, x.state(6 + setting));
        }
        of("- `value`: the new value");
        for (int setting = 0; setting < 7; setting++) {
            x.set(setting, least[setting]);
            due("the least", least[setting], x.state(6 + setting));
            x.set(setting, greatest[setting]);
            due("the greatest", greatest[setting], x.state(6 + setting));
        }
        of("Returns the previous value;");
        x = new DyeTank();
        due("as at first", 20, x.set(MIX, 0));
        due("the least", 0, x.set(MIX, 500));
        due("the greatest", 500, x.set(MIX, 500));
        due("the same", 500, x.set(MIX, 7));
        due("below 0: at first", 0, x.set(FLOOR_SPEED, -1500));
        due("below 0", -1500, x.set(FLOOR_SPEED, 1500));
        of("BAD_VALUE minus GONE if there is no such setting,");
        for (int setting : new int[] {-1, 7, 8, LEAST, GREATEST}) {
            due("set(" + setting + ", 0)", BAD_VALUE_GONE, x.set(setting, 0));
        }
        of("or value is out of its range.");
        x = new DyeTank();
        List<Long> before = everything(x);
        for (int setting = 0; setting < 7; setting++) {
            for (int value : new int[] {least[setting] - 1, greatest[setting] + 1, LEAST, GREATEST}) {
                due("set(" + setting + ", " + value + ")", BAD_VALUE_GONE, x.set(setting, value));
            }
        }
        dueSame("the settings stay", before, everything(x));
    }

    private static void spin() {
        promise(4);
        of("Gives a ring a velocity: its momentum becomes velocity * weight.");
        DyeTank x = new DyeTank();
        x.spin(4, -7);
        due("the momentum", -63, x.ring(4, 1));
        due("the velocity", -7, x.ring(4, 0));
        due("no other ring", -63, x.state(3));
        x.spin(4, 0);
        due("at rest again", 0, x.ring(4, 1));
        of("- `ring`: the ring");
        x.setUp(12);
        for (int ring = 0; ring < 12; ring++) {
            due("spin(" + ring + ", 10)", 0, x.spin(ring, 10));
            due("the velocity of " + ring, 10, x.ring(ring, 0));
        }
        of("- `velocity`: -1500 to 1500");
        x.spin(11, -1500);
        due("the least", -34500, x.ring(11, 1));
        x.spin(11, 1500);
        due("the greatest", 34500, x.ring(11, 1));
        of("Returns the previous velocity;");
        due("the greatest", 1500, x.spin(11, -1500));
        due("the least", -1500, x.spin(11, 0));
        due("none", 0, x.spin(11, 0));
        x = still(2);
        x.set(SHEAR, 100);
        x.spin(0, -7);
        x.tick(1);
        due("that of the momentum -7, rounded down", -3, x.spin(1, 4));
        due("the momentum then", 12, x.ring(1, 1));
        of("NO_SUCH minus GONE if there is no such ring;");
        for (int ring : new int[] {-1, 2, 12, LEAST, GREATEST}) {
            due("spin(" + ring + ", 0)", NO_SUCH_GONE, x.spin(ring, 0));
        }
        of("BAD_VALUE minus GONE if velocity is out of range.");
        for (int velocity : new int[] {-1501, 1501, LEAST, GREATEST}) {
            due("spin(1, " + velocity + ")", BAD_VALUE_GONE, x.spin(1, velocity));
        }
        due("the velocity stays", 4, x.ring(1, 0));
    }

    private static void spinAll() {
        promise(5);
        of("Gives all rings from the middle outward velocities that change evenly: the ring r gets from + (to - from) * r / "
                + "(number of rings - 1).");
        DyeTank x = new DyeTank();
        x.spinAll(0, -7);
        int[] falling = {0, -1, -2, -4, -5, -7};
        x.spin(3, 900);
        x.spinAll(0, -7);
        for (int ring = 0; ring < 6; ring++) {
            due("the velocity of " + ring, falling[ring], x.ring(ring, 0));
            due("the momentum of " + ring, falling[ring] * (2 * ring + 1), x.ring(ring, 1));
        }
        x.setUp(2);
        x.spinAll(1500, -1500);
        due("the first of two", 1500, x.ring(0, 0));
        due("the last of two", -1500, x.ring(1, 0));
        x.setUp(12);
        x.spinAll(-1500, 1500);
        due("the first of twelve", -1500, x.ring(0, 0));
        due("-1500 + 272", -1228, x.ring(1, 0));
        due("the last of twelve", 1500, x.ring(11, 0));
        of("- `from`: -1500 to 1500");
        x = still(2);
        due("the least", -1500, x.spinAll(-1500, 0));
        due("the greatest", 1500, x.spinAll(1500, 0));
        of("- `to`: -1500 to 1500");
        due("the least", -4500, x.spinAll(0, -1500));
        due("the greatest", 4500, x.spinAll(0, 1500));
        of("Returns the sum of all momenta then;");
        due("two rings", 7 + 3 * 9, x.spinAll(7, 9));
        due("as state() says", 7 + 3 * 9, x.state(3));
        due("a sum below 0", -7 - 3 * 9, x.spinAll(-7, -9));
        x.setUp(12);
        due("the greatest sum", 144 * 1500, x.spinAll(1500, 1500));
        due("the least sum", -144 * 1500, x.spinAll(-1500, -1500));
        of("BAD_VALUE minus GONE if an argument is out of range.");
        for (int velocity : new int[] {-1501, 1501, LEAST, GREATEST}) {
            due("spinAll(" + velocity + ", 0)", BAD_VALUE_GONE, x.spinAll(velocity, 0));
            due("spinAll(0, " + velocity + ")", BAD_VALUE_GONE, x.spinAll(0, velocity));
            due("both", BAD_VALUE_GONE, x.spinAll(velocity, velocity));
        }
        due("the momenta stay", -144 * 1500, x.state(3));
    }

    private static void pour() {
        promise(6);
        of("Pours dye into the cell of a ring and a layer that is in a sector.");
        DyeTank x = still(2);
        x.spin(1, 149);
        x.tick(1);
        x.pour(0, TOP, 1, 0, 7);
        x.spin(1, 1);
        x.tick(1);
        due("the cell is in the next sector now", 7, x.dye(0, TOP, 1, 1));
        x.pour(0, TOP, 1, 0, 8);
        due("the cell that is in the sector now", 8, x.dye(0, TOP, 1, 0));
        x.pour(0, TOP, 1, 1, 3);
        due("more of it in the same cell", 10, x.dye(0, TOP, 1, 1));
        x.spin(1, 0);
        x.tick(1);
        due("the other layer", 0, x.dye(0, BOTTOM, 1, 1));
        due("the other ring", 0, x.ring(0, 4));
        of("- `colour`: 0 to 2");
        x = still(12);
        for (int colour = 0; colour < 3; colour++) {
            due("pour " + colour, 11 + colour, x.pour(colour, TOP, 0, 0, 11 + colour));
            due("dye " + colour, 11 + colour, x.dye(colour, TOP, 0, 0));
        }
        of("- `layer`: TOP or BOTTOM");
        x = still(12);
        x.pour(0, DyeTank.TOP, 0, 0, 4);
        x.pour(0, DyeTank.BOTTOM, 0, 0, 5);
        due("TOP", 4, x.dye(0, 0, 0, 0));
        due("BOTTOM", 5, x.dye(0, 1, 0, 0));
        of("- `ring`: the ring");
        x = still(12);
        for (int ring = 0; ring < 12; ring++) {
            x.pour(0, TOP, ring, 0, 1 + ring);
            due("ring " + ring, 1 + ring, x.ring(ring, 4));
        }
        of("- `sector`: 0 to 23");
        x = still(12);
        for (int sector = 0; sector < 24; sector++) {
            x.pour(0, TOP, 11, sector, 1 + sector);
            due("sector " + sector, 1 + sector, x.dye(0, TOP, 11, sector));
        }
        due("24 cells", 24, x.colour(0, 2));
        of("- `amount`: 1 to 1000000");
        x = still(12);
        due("the least", 1, x.pour(0, TOP, 0, 0, 1));
        due("the greatest", 1000001, x.pour(0, TOP, 0, 0, 1000000));
        due("both", 1000001, x.dye(0, TOP, 0, 0));
    }

    private static void pourAnswers() {
        of("Returns how much of the colour the tank has then;");
        DyeTank x = still(3);
        due("first", 10, x.pour(1, TOP, 0, 0, 10));
        due("in another ring", 15, x.pour(1, TOP, 2, 0, 5));
        due("in the other layer", 22, x.pour(1, BOTTOM, 2, 9, 7));
        due("another colour", 1, x.pour(2, BOTTOM, 2, 9, 1));
        x.set(MIX, 500);
        x.tick(50);
        due("none is lost", 23, x.pour(1, TOP, 0, 0, 1));
        of("NO_SUCH if there is no such colour, layer, ring or sector;");
        for (int wrong : new int[] {-1, 24, LEAST, GREATEST}) {
            due("no colour " + wrong, NO_SUCH, x.pour(wrong, 0, 0, 0, 1));
            due("no layer " + wrong, NO_SUCH, x.pour(0, wrong, 0, 0, 1));
            due("no ring " + wrong, NO_SUCH, x.pour(0, 0, wrong, 0, 1));
            due("no sector " + wrong, NO_SUCH, x.pour(0, 0, 0, wrong, 1));
        }
        due("no colour 3", NO_SUCH, x.pour(3, 0, 0, 0, 1));
        due("no layer 2", NO_SUCH, x.pour(0, 2, 0, 0, 1));
        due("no ring 3", NO_SUCH, x.pour(0, 0, 3, 0, 1));
        due("nothing was poured", 0, x.colour(0, 0));
        of("BAD_VALUE if amount is out of range;");
        for (int amount : new int[] {0, -1, 1000001, LEAST, GREATEST}) {
            due("pour " + amount, BAD_VALUE, x.pour(0, TOP, 0, 0, amount));
        }
        due("nothing was poured", 0, x.colour(0, 0));
        of("TOO_MANY if it would have more than 10000000.");
        pourMost(x, 0, TOP, 0, 0);
        due("all that there can be", 10000000, x.colour(0, 0));
        due("one more", TOO_MANY, x.pour(0, BOTTOM, 2, 7, 1));
        due("many more", TOO_MANY, x.pour(0, TOP, 0, 0, 1000000));
        due("another colour has room", 1000023, x.pour(1, TOP, 0, 0, 1000000));
        for (int calls = 0; calls < 8; calls++) {
            x.pour(1, TOP, 0, 0, 1000000);
        }
        due("one too many", TOO_MANY, x.pour(1, TOP, 0, 0, 999978));
        due("not one too many", 10000000, x.pour(1, TOP, 0, 0, 999977));
        x.setUp(3);
        due("room in a new tank", 1, x.pour(0, TOP, 0, 0, 1));
    }

    private static void tick() {
        promise(7);
        of("Makes ticks.");
        DyeTank x = still(2);
        x.spin(0, 7);
        x.tick(3);
        due("three", 21, x.ring(0, 2));
        DyeTank other = used();
        DyeTank same = used();
        other.tick(5);
        for (int ticks = 0; ticks < 5; ticks++) {
            same.tick(1);
        }
        dueSame("five are as one five times", everything(same), everything(other));
        of("- `ticks`: 1 to 1000");
        x = still(2);
        x.spin(0, 1);
        x.tick(1);
        due("the least", 1, x.ring(0, 2));
        x.tick(1000);
        due("the greatest", 1001, x.ring(0, 2));
        of("Returns the time then;");
        due("one", 1002, x.tick(1));
        due("many", 1100, x.tick(98));
        of("BAD_VALUE if ticks is out of range;");
        for (int ticks : new int[] {0, -1, 1001, LEAST, GREATEST}) {
            due("tick(" + ticks + ")", BAD_VALUE, x.tick(ticks));
        }
        due("the time stays", 1100, x.state(0));
        of("NOT_POSSIBLE if the time would be greater than 100000.");
        x = still(2);
        x.spin(0, 1);
        for (int calls = 0; calls < 99; calls++) {
            x.tick(1000);
        }
        due("up to 99001", 99001, x.tick(1));
        due("one beyond", NOT_POSSIBLE, x.tick(1000));
        due("the time stays", 99001, x.state(0));
        due("no tick was made", 99001 % 3600, x.ring(0, 2));
        due("not beyond", 100000, x.tick(999));
        due("one more", NOT_POSSIBLE, x.tick(1));
        due("none was made", 100000 % 3600, x.ring(0, 2));
        x.setUp(2);
        due("a new tank has time", 1, x.tick(1));
    }
}
