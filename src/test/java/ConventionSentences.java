import java.util.List;
import java.util.function.ToLongFunction;

/** The section CONVENTIONS of the description, and its constants. */
final class ConventionSentences extends Sentences {
    private record Failing(String name, long code, ToLongFunction<DyeTank> call) {
    }

    private static final List<Failing> FAILING = List.of(
            new Failing("setUp(1)", BAD_VALUE, x -> x.setUp(1)),
            new Failing("setUp(13)", BAD_VALUE, x -> x.setUp(13)),
            new Failing("set(7, 0)", BAD_VALUE_GONE, x -> x.set(7, 0)),
            new Failing("set(6, 501)", BAD_VALUE_GONE, x -> x.set(6, 501)),
            new Failing("spin(3, 0)", NO_SUCH_GONE, x -> x.spin(3, 0)),
            new Failing("spin(2, 1501)", BAD_VALUE_GONE, x -> x.spin(2, 1501)),
            new Failing("spinAll(0, 1501)", BAD_VALUE_GONE, x -> x.spinAll(0, 1501)),
            new Failing("pour(1, 2, 0, 0, 1)", NO_SUCH, x -> x.pour(1, 2, 0, 0, 1)),
            new Failing("pour(1, 0, 0, 0, 0)", BAD_VALUE, x -> x.pour(1, 0, 0, 0, 0)),
            new Failing("pour(0, 0, 0, 0, 1)", TOO_MANY, x -> x.pour(0, 0, 0, 0, 1)),
            new Failing("tick(0)", BAD_VALUE, x -> x.tick(0)),
            new Failing("tick(1001)", BAD_VALUE, x -> x.tick(1001)),
            new Failing("ring(3, 0)", NO_SUCH_GONE, x -> x.ring(3, 0)),
            new Failing("ring(0, 7)", BAD_VALUE_GONE, x -> x.ring(0, 7)),
            new Failing("dye(0, 0, 0, 24)", NO_SUCH, x -> x.dye(0, 0, 0, 24)),
            new Failing("colour(3, 0)", NO_SUCH, x -> x.colour(3, 0)),
            new Failing("colour(0, 6)", BAD_VALUE, x -> x.colour(0, 6)),
            new Failing("state(13)", BAD_VALUE_GONE, x -> x.state(13)),
            new Failing("marker(3000, 0)", BAD_VALUE, x -> x.marker(3000, 0)),
            new Failing("marker(0, 0)", TOO_MANY, x -> x.marker(0, 0)),
            new Failing("where(6, 0)", NO_SUCH, x -> x.where(6, 0)),
            new Failing("where(0, 5)", BAD_VALUE, x -> x.where(0, 5)),
            new Failing("path(6, 0, 0)", NO_SUCH, x -> x.path(6, 0, 0)),
            new Failing("path(0, 0, 2)", BAD_VALUE, x -> x.path(0, 0, 2)),
            new Failing("settles(0, 1001)", BAD_VALUE, x -> x.settles(0, 1001)),
            new Failing("arrives(0, 3, 1, 1)", NO_SUCH, x -> x.arrives(0, 3, 1, 1)),
            new Failing("arrives(0, 0, 1, 501)", BAD_VALUE, x -> x.arrives(0, 0, 1, 501)),
            new Failing("arrives(2, 0, 1, 1)", NOT_POSSIBLE, x -> x.arrives(2, 0, 1, 1)),
            new Failing("meet(0, 6, 0, 1)", NO_SUCH, x -> x.meet(0, 6, 0, 1)),
            new Failing("meet(0, 1, 1801, 1)", BAD_VALUE, x -> x.meet(0, 1, 1801, 1)),
            new Failing("leastEkman(3, 0, 1)", NO_SUCH, x -> x.leastEkman(3, 0, 1)),
            new Failing("leastEkman(0, 0, 51)", BAD_VALUE, x -> x.leastEkman(0, 0, 51)),
            new Failing("leastEkman(2, 0, 1)", NOT_POSSIBLE, x -> x.leastEkman(2, 0, 1)),
            new Failing("say(32)", BAD_VALUE, x -> x.say(32)),
            new Failing("say(33)", TOO_MANY, x -> x.say(33)),
            new Failing("carryOut()", BAD_TEXT, x -> x.carryOut()),
            new Failing("save(2)", BAD_VALUE, x -> x.save(2)),
            new Failing("restore(2)", BAD_VALUE, x -> x.restore(2)),
            new Failing("restore(1)", NOT_POSSIBLE, x -> x.restore(1)));

    static void test() {
        promise(0);
        errors();
        order();
        none();
        gone();
        rounding();
        constants();
    }

    /**
     * A tank of 3 rings in which something stands everywhere: the colour 0 full, none of the colour 2, six markers, a
     * pad that is full of a text that is not correct, the slot 0 saved and the slot 1 not.
     */
    private static DyeTank full() {
        DyeTank x = new DyeTank();
        x.setUp(3);
        x.set(MIX, 33);
        x.spinAll(700, -300);
        pourMost(x, 0, TOP, 2, 5);
        x.pour(1, BOTTOM, 1, 23, 999);
        x.save(0);
        for (int marker = 0; marker < 6; marker++) {
            x.marker(500 * marker, 600 * marker);
        }
        x.tick(7);
        for (int length = 0; length < 60; length++) {
            x.say('t');
        }
        return x;
    }

    private static void errors() {
        of("A method that fails returns one of the error codes NO_SUCH (-1), BAD_VALUE (-2), BAD_TEXT (-3), TOO_MANY (-4) "
                + "and NOT_POSSIBLE (-5) and changes nothing;");
        DyeTank x = full();
        List<Long> before = everything(x);
        for (Failing failing : FAILING) {
            due(failing.name, failing.code, failing.call.applyAsLong(x));
            dueSame("the tank behind " + failing.name, before, everything(x));
            due("the length of the pad behind " + failing.name, 60, x.state(5));
            due("the fault of the pad behind " + failing.name, 1, x.fault());
        }
        due("the slot 0 still stands", 0, x.restore(0));
        due("the slot 0 has no marker", 0, x.state(2));
        due("the slot 1 still has nothing", NOT_POSSIBLE, x.restore(1));
        errorsOfAnOldTank();
        errorsOfCarryOut();
    }

    private static void errorsOfAnOldTank() {
        DyeTank x = pushing(2);
        x.spin(0, 3);
        makeOld(x);
        x.pour(0, TOP, 0, 0, 5000);
        List<Long> before = everything(x);
        due("tick(1)", NOT_POSSIBLE, x.tick(1));
        due("tick(1000)", NOT_POSSIBLE, x.tick(1000));
        dueSame("the tank behind tick()", before, everything(x));
    }

    private static void errorsOfCarryOut() {
        DyeTank x = new DyeTank();
        say(x, "t5,v0:7,");
        due("carryOut() of steps behind which one is missing", BAD_TEXT, x.carryOut());
        due("the time: no step was carried out", 0, x.state(0));
        due("the velocity", 0, x.ring(0, 0));
        due("the text stays", 8, x.state(5));
        x.say('t');
        x.say('2');
        due("carryOut() of the text that was said to its end", 3, x.carryOut());
        due("the time then", 7, x.state(0));
    }

    private static void order() {
        of("it names its errors in the order in which they are checked, and the first that applies is returned.");
        DyeTank x = full();
        due("a wrong ring before a wrong velocity", NO_SUCH_GONE, x.spin(3, 1501));
        due("a wrong layer before a wrong amount", NO_SUCH, x.pour(0, 2, 0, 0, 0));
        due("a wrong sector before too much", NO_SUCH, x.pour(0, 0, 0, 24, 1));
        due("a wrong amount before too much", BAD_VALUE, x.pour(0, 0, 0, 0, 1000001));
        due("a wrong ring before a wrong what", NO_SUCH_GONE, x.ring(-1, 7));
        due("a wrong colour before a wrong what", NO_SUCH, x.colour(3, 6));
        due("a wrong place before too many markers", BAD_VALUE, x.marker(3000, 0));
        due("a wrong angle before too many markers", BAD_VALUE, x.marker(0, 3600));
        due("a wrong marker before a wrong what", NO_SUCH, x.where(6, 5));
        due("a wrong marker before a wrong what of a path", NO_SUCH, x.path(6, 0, 2));
        due("a wrong ring before a wrong share", NO_SUCH, x.arrives(0, 3, 0, 1));
        due("a wrong ring before none of the colour", NO_SUCH, x.arrives(2, 3, 1, 1));
        due("a wrong share before none of the colour", BAD_VALUE, x.arrives(2, 0, 1001, 1));
        due("a wrong most before none of the colour", BAD_VALUE, x.arrives(2, 0, 1, 0));
        due("a wrong marker before a wrong near", NO_SUCH, x.meet(0, 6, -1, 1));
        due("a wrong colour before a wrong place", NO_SUCH, x.leastEkman(3, 11001, 1));
        due("a wrong place before none of the colour", BAD_VALUE, x.leastEkman(2, -1, 1));
        due("wrong ticks before none of the colour", BAD_VALUE, x.leastEkman(2, 0, 0));
        due("a wrong character before a full pad", BAD_VALUE, x.say(127));
        due("a wrong slot before nothing saved", BAD_VALUE, x.restore(-1));
        makeOld(x = new DyeTank());
        due("wrong ticks before the time", BAD_VALUE, x.tick(1001));
        due("no ticks before the time", BAD_VALUE, x.tick(0));
    }

    private static void none() {
        of("NONE (-6) is not an error; it is returned only if no error applies.");
        DyeTank x = still(3);
        x.spin(0, 1);
        x.marker(0, 0);
        x.marker(1000, 0);
        x.pour(0, TOP, 1, 0, 1000);
        due("the mean place of nothing", NONE, x.colour(2, 4));
        due("no mean place of a wrong colour", NO_SUCH, x.colour(3, 4));
        due("no position", NONE, x.path(0, 0, 0));
        due("no position of a wrong marker", NO_SUCH, x.path(2, 0, 0));
        due("no wrong number of a position that there is not", BAD_VALUE, x.path(0, 0, 2));
        due("settles never", NONE, x.settles(0, 1000));
        due("settles with a wrong most", BAD_VALUE, x.settles(0, 1001));
        due("settles with a wrong band", BAD_VALUE, x.settles(-1, 1000));
        due("arrives never", NONE, x.arrives(0, 2, 1, 500));
        due("arrives never, with a wrong most", BAD_VALUE, x.arrives(0, 2, 1, 501));
        due("arrives never in a wrong ring", NO_SUCH, x.arrives(0, 3, 1, 500));
        due("meet never", NONE, x.meet(0, 1, 1800, 1000));
        due("meet never, with a wrong near", BAD_VALUE, x.meet(0, 1, 1801, 1000));
        due("meet never a marker that there is not", NO_SUCH, x.meet(0, 2, 1800, 1000));
        due("no EKMAN", NONE, x.leastEkman(0, 999, 50));
        due("no EKMAN for wrong ticks", BAD_VALUE, x.leastEkman(0, 999, 51));
        due("no EKMAN for a wrong colour", NO_SUCH, x.leastEkman(-1, 999, 50));
        say(x, "t1");
        due("no fault", NONE, x.fault());
        due("and the text is carried out", 1, x.carryOut());
    }

    private static void gone() {
        of("Methods that return numbers that can be negative themselves return error codes and NONE minus GONE, where GONE is "
                + "1000000000.");
        DyeTank x = still(2);
        x.spinAll(-1, -1);
        due("the velocity -1 is no error", -1, x.ring(0, 0));
        due("the momenta -4 are no error", -4, x.state(3));
        due("the previous velocity -1 is no error", -1, x.spin(0, -2));
        due("the momenta then", -5, x.state(3));
        due("the momenta behind spinAll()", -8, x.spinAll(-2, -2));
        x.set(WALL_SPEED, -2);
        due("the previous value -2 is no error", -2, x.set(WALL_SPEED, 0));
        due("no setting", -1000000002, x.set(7, 0));
        due("no value", -1000000002, x.set(WALL_SPEED, -1501));
        due("no ring to spin", -1000000001, x.spin(2, 0));
        due("no velocity", -1000000002, x.spin(0, -1501));
        due("no velocities", -1000000002, x.spinAll(-1501, 0));
        due("no ring", -1000000001, x.ring(2, 0));
        due("no number of a ring", -1000000002, x.ring(0, -1));
        due("no number of the tank", -1000000002, x.state(-1));
        due("the others return their codes: no rings", -2, x.setUp(1));
        due("the others return their codes: no dye", -1, x.dye(0, 0, 2, 0));
        due("the others return their codes: no marker", -1, x.where(0, 0));
        due("the others return their codes: no colour", -1, x.colour(3, 0));
        due("the others return their codes: no mean place", -6, x.colour(0, 4));
    }

    private static void rounding() {
        of("All numbers are integers.");
        DyeTank x = still(2);
        x.pour(0, TOP, 0, 0, 1);
        x.pour(0, TOP, 1, 0, 2);
        due("a mean place of two thirds", 666, x.colour(0, 4));
        of("a / b is rounded toward 0;");
        x.set(SHEAR, 33);
        x.spin(0, -10);
        x.tick(1);
        due("shear: 33 * -10 / 100", -7, x.ring(0, 1));
        x = new DyeTank();
        x.spin(0, 99);
        x.spin(1, -99);
        x.set(EKMAN, 1);
        due("a push of 99 / 100", 0, x.ring(0, 3));
        due("a push of -99 / 100", 0, x.ring(1, 3));
        x.set(EKMAN, 50);
        due("a push of 4950 / 100", 49, x.ring(0, 3));
        due("a push of -4950 / 100", -49, x.ring(1, 3));
        of("floor(a / b) is rounded down;");
        x = still(2);
        x.set(SHEAR, 100);
        x.spin(0, -1);
        x.tick(1);
        due("the velocity of the momentum -1 with the weight 3", -1, x.ring(1, 0));
        x.setUp(2);
        x.set(SHEAR, 100);
        x.spin(0, 2);
        x.tick(1);
        due("the velocity of the momentum 2 with the weight 3", 0, x.ring(1, 0));
        of("a mod b is never negative.");
        x = still(2);
        x.spin(0, -1);
        x.marker(0, 0);
        x.pour(0, TOP, 0, 0, 7);
        x.tick(1);
        due("an angle of -1 mod 3600", 3599, x.ring(0, 2));
        due("the angle of a marker", 3599, x.where(0, 1));
        due("the sector of the cell 0 at the angle 3599", 7, x.dye(0, TOP, 0, 23));
        numbering();
    }

    private static void numbering() {
        of("Everything is numbered from 0.");
        DyeTank x = new DyeTank();
        due("the first ring", 0, x.spin(0, 3));
        due("the first marker", 0, x.marker(0, 0));
        due("the first setting", 20, x.set(0, 0));
        due("the first colour, layer, ring and sector", 9, x.pour(0, 0, 0, 0, 9));
        due("the first slot", 0, x.save(0));
        x.tick(1);
        due("the first position of a path", x.where(0, 1), x.path(0, 0, 1));
        x.say('x');
        due("the first character", 0, x.fault());
        due("no ring -1", NO_SUCH_GONE, x.ring(-1, 0));
        due("no marker -1", NO_SUCH, x.where(-1, 0));
        due("no slot -1", BAD_VALUE, x.save(-1));
    }

    private static void constants() {
        of("- `NO_SUCH = -1, BAD_VALUE = -2, BAD_TEXT = -3, TOO_MANY = -4, NOT_POSSIBLE = -5, NONE = -6`: Error codes, and "
                + "NONE: there is none.");
        due("NO_SUCH", -1, DyeTank.NO_SUCH);
        due("BAD_VALUE", -2, DyeTank.BAD_VALUE);
        due("BAD_TEXT", -3, DyeTank.BAD_TEXT);
        due("TOO_MANY", -4, DyeTank.TOO_MANY);
        due("NOT_POSSIBLE", -5, DyeTank.NOT_POSSIBLE);
        due("NONE", -6, DyeTank.NONE);
        of("- `GONE = 1000000000`: What error codes and NONE are decreased by in methods that return numbers that can be "
                + "negative.");
        due("GONE", 1000000000, DyeTank.GONE);
        due("an error", DyeTank.BAD_VALUE - DyeTank.GONE, new DyeTank().state(13));
        of("- `TOP = 0, BOTTOM = 1`: Layers.");
        due("TOP", 0, DyeTank.TOP);
        due("BOTTOM", 1, DyeTank.BOTTOM);
        of("- `SHEAR = 0, WALL = 1, WALL_SPEED = 2, FLOOR = 3, FLOOR_SPEED = 4, EKMAN = 5, MIX = 6`: Settings.");
        int[] settings = {DyeTank.SHEAR, DyeTank.WALL, DyeTank.WALL_SPEED, DyeTank.FLOOR, DyeTank.FLOOR_SPEED,
            DyeTank.EKMAN, DyeTank.MIX};
        for (int setting = 0; setting < 7; setting++) {
            due("setting " + setting, setting, settings[setting]);
        }
    }
}
