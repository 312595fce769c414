import java.util.List;

/** A test for each promise: every due number is worked out by hand from the document. */
final class PromiseTest extends Tanks {
    private static final Check CHECK = new Check("PromiseTest");

    private static void due(String call, long want, long got) {
        CHECK.due(call, want, got);
    }

    public static void main(String[] args) {
        promise1NewObject();
        promise2SetUp();
        promise3Set();
        promise4Spin();
        promise5SpinAll();
        promise6Pour();
        promise7Tick();
        tickMomenta();
        tickOfAll();
        tickAngles();
        tickPushesDye();
        tickMixesDye();
        tickMovesMarkers();
        promise8Ring();
        promise9Dye();
        promise10Colour();
        promise11State();
        promise12Marker();
        promise13Where();
        promise14Path();
        promise15Settles();
        promise16Arrives();
        promise17Meet();
        promise18LeastEkman();
        promise19Say();
        promise20Wipe();
        promise21Fault();
        promise22CarryOut();
        promise23Save();
        promise24Restore();
        CHECK.finish();
    }

    private static void say(DyeTank x, String text) {
        x.wipe();
        for (int index = 0; index < text.length(); index++) {
            due("say of " + text, index + 1, x.say(text.charAt(index)));
        }
    }

    private static void dueNew(String when, DyeTank x, int rings) {
        long[] states = {0, rings, 0, 0, 0, x.state(5), 20, 10, 0, 5, 0, 50, 20};
        for (int what = 0; what < 13; what++) {
            due(when + ": state(" + what + ")", states[what], x.state(what));
        }
        for (int ring = 0; ring < rings; ring++) {
            for (int what = 0; what <= 6; what++) {
                due(when + ": ring(" + ring + ", " + what + ")", 0, x.ring(ring, what));
            }
            for (int colour = 0; colour < 3; colour++) {
                for (int sector = 0; sector < 24; sector++) {
                    due(when + ": dye in TOP", 0, x.dye(colour, TOP, ring, sector));
                    due(when + ": dye in BOTTOM", 0, x.dye(colour, BOTTOM, ring, sector));
                }
            }
        }
        due(when + ": the ring that is too much", NO_SUCH_GONE, x.ring(rings, 0));
        due(when + ": where(0, 0)", NO_SUCH, x.where(0, 0));
        for (int colour = 0; colour < 3; colour++) {
            due(when + ": colour(" + colour + ", 0)", 0, x.colour(colour, 0));
        }
    }

    private static void promise1NewObject() {
        DyeTank x = new DyeTank();
        dueNew("new", x, 6);
        due("state(5) when new", 0, x.state(5));
        due("restore(0) when new", NOT_POSSIBLE, x.restore(0));
        due("restore(1) when new", NOT_POSSIBLE, x.restore(1));
        DyeTank y = new DyeTank();
        y.spin(0, 7);
        y.pour(0, 0, 0, 0, 5);
        y.marker(0, 0);
        y.say('t');
        y.save(0);
        y.tick(1);
        dueNew("new beside another", x, 6);
        due("pad of the one", 0, x.state(5));
        due("slot of the one", NOT_POSSIBLE, x.restore(0));
    }

    private static void promise2SetUp() {
        DyeTank x = new DyeTank();
        x.say('t');
        x.say('1');
        x.spin(1, 100);
        for (int setting = 0; setting < 7; setting++) {
            x.set(setting, 33);
        }
        x.pour(0, TOP, 5, 3, 1000);
        x.pour(2, BOTTOM, 0, 3, 1000);
        x.marker(10, 20);
        x.tick(5);
        x.save(1);
        int[] wrong = {1, 0, -1, 13, LEAST, GREATEST};
        for (int rings : wrong) {
            due("setUp(" + rings + ")", BAD_VALUE, x.setUp(rings));
        }
        due("state(0) behind a wrong setUp", 5, x.state(0));
        due("colour(0, 0) behind a wrong setUp", 1000, x.colour(0, 0));
        due("setUp(2)", 6, x.setUp(2));
        dueNew("setUp(2)", x, 2);
        due("setUp(12)", 2, x.setUp(12));
        dueNew("setUp(12)", x, 12);
        due("the pad stays", 2, x.state(5));
        due("the text stays", NONE, x.fault());
        due("the slot stays", 5, x.restore(1));
        due("the rings of the slot", 6, x.state(1));
        due("the dye of the slot", 1000, x.colour(2, 0));
        x.set(EKMAN, 200);
        x.spin(0, 500);
        x.spin(1, 0);
        x.marker(999, 0);
        x.tick(1);
        due("a marker with a crossing", 1, x.where(1, 4) + x.where(0, 4));
        due("setUp(6) to as many", 6, x.setUp(6));
        dueNew("setUp(6)", x, 6);
        due("a marker behind setUp", 0, x.marker(0, 0));
        due("its path behind setUp", NONE, x.path(0, 0, 0));
        x.marker(0, 0);
        due("crossings behind setUp", 0, x.where(0, 4) + x.where(1, 4));
    }

    private static void promise3Set() {
        int[] least = {0, 0, -1500, 0, -1500, 0, 0};
        int[] greatest = {100, 100, 1500, 100, 1500, 200, 500};
        int[] initial = {20, 10, 0, 5, 0, 50, 20};
        DyeTank x = new DyeTank();
        for (int setting = 0; setting < 7; setting++) {
            String name = "setting " + setting;
            due(name + " beyond below", BAD_VALUE_GONE, x.set(setting, least[setting] - 1));
            due(name + " beyond above", BAD_VALUE_GONE, x.set(setting, greatest[setting] + 1));
            due(name + " far below", BAD_VALUE_GONE, x.set(setting, LEAST));
            due(name + " far above", BAD_VALUE_GONE, x.set(setting, GREATEST));
            due(name + " to the least", initial[setting], x.set(setting, least[setting]));
            due(name + " to the greatest", least[setting], x.set(setting, greatest[setting]));
            due(name + " now", greatest[setting], x.state(6 + setting));
            for (int other = setting + 1; other < 7; other++) {
                due(name + " leaves the others", initial[other], x.state(6 + other));
            }
        }
        int[] wrong = {-1, 7, LEAST, GREATEST};
        for (int setting : wrong) {
            due("set(" + setting + ", 0)", BAD_VALUE_GONE, x.set(setting, 0));
        }
    }

    private static void promise4Spin() {
        DyeTank x = new DyeTank();
        due("spin(5, -1500)", 0, x.spin(5, -1500));
        due("momentum of 5", -16500, x.ring(5, 1));
        due("spin(5, 1500)", -1500, x.spin(5, 1500));
        due("momentum of 5", 16500, x.ring(5, 1));
        due("spin(5, 0)", 1500, x.spin(5, 0));
        int[] wrongRings = {-1, 6, LEAST, GREATEST};
        for (int ring : wrongRings) {
            due("spin(" + ring + ", 9999)", NO_SUCH_GONE, x.spin(ring, 9999));
            due("spin(" + ring + ", 0)", NO_SUCH_GONE, x.spin(ring, 0));
        }
        int[] wrongVelocities = {-1501, 1501, LEAST, GREATEST};
        for (int velocity : wrongVelocities) {
            due("spin(0, " + velocity + ")", BAD_VALUE_GONE, x.spin(0, velocity));
        }
        due("all at rest behind wrong calls", 0, x.state(3));
        x.spin(0, -100);
        x.tick(1);
        due("momentum of 1 is not a multiple", -20, x.ring(1, 1));
        due("the previous velocity is rounded down", -7, x.spin(1, 4));
        due("then the momentum is one", 12, x.ring(1, 1));
    }

    private static void promise5SpinAll() {
        DyeTank x = new DyeTank();
        due("spinAll(0, -7)", -163, x.spinAll(0, -7));
        int[] falling = {0, -1, -2, -4, -5, -7};
        for (int ring = 0; ring < 6; ring++) {
            due("velocity of " + ring, falling[ring], x.ring(ring, 0));
            due("momentum of " + ring, falling[ring] * (2 * ring + 1), x.ring(ring, 1));
        }
        due("spinAll(5, 5)", 180, x.spinAll(5, 5));
        int[][] wrong = {{-1501, 0}, {1501, 0}, {0, -1501}, {0, 1501}, {LEAST, LEAST}, {0, GREATEST}};
        for (int[] pair : wrong) {
            due("spinAll out of range", BAD_VALUE_GONE, x.spinAll(pair[0], pair[1]));
        }
        due("nothing changed", 180, x.state(3));
        x.setUp(2);
        due("spinAll(1500, -1500) of 2", 1500 - 4500, x.spinAll(1500, -1500));
        due("first of 2", 1500, x.ring(0, 0));
        due("last of 2", -1500, x.ring(1, 0));
        x.setUp(12);
        x.spinAll(-1500, 1500);
        due("second of 12: -1500 + 3000 / 11", -1228, x.ring(1, 0));
        due("last of 12", 1500, x.ring(11, 0));
    }

    private static void promise6Pour() {
        DyeTank x = still(6);
        int[][] noSuch = {{-1, 0, 0, 0}, {3, 0, 0, 0}, {0, -1, 0, 0}, {0, 2, 0, 0}, {0, 0, -1, 0}, {0, 0, 6, 0},
            {0, 0, 0, -1}, {0, 0, 0, 24}, {LEAST, 0, 0, 0}, {0, GREATEST, 0, 0}, {0, 0, LEAST, 0}, {0, 0, 0, GREATEST}};
        for (int[] place : noSuch) {
            due("pour nowhere", NO_SUCH, x.pour(place[0], place[1], place[2], place[3], 1));
            due("pour nothing nowhere", NO_SUCH, x.pour(place[0], place[1], place[2], place[3], 0));
        }
        int[] wrong = {0, -1, 1000001, LEAST, GREATEST};
        for (int amount : wrong) {
            due("pour " + amount, BAD_VALUE, x.pour(0, 0, 0, 0, amount));
        }
        due("nothing poured", 0, x.colour(0, 0));
        due("pour the least", 1, x.pour(2, BOTTOM, 5, 23, 1));
        due("pour again", 4, x.pour(2, BOTTOM, 5, 23, 3));
        due("pour elsewhere", 9, x.pour(2, TOP, 5, 23, 5));
        due("in the cell", 4, x.dye(2, BOTTOM, 5, 23));
        for (int times = 1; times <= 9; times++) {
            due("pour a million", 1000000 * times, x.pour(0, TOP, 1, 0, 1000000));
        }
        due("up to all but one", 9999999, x.pour(0, TOP, 1, 0, 999999));
        due("one too many", TOO_MANY, x.pour(0, TOP, 1, 0, 2));
        due("many too many", TOO_MANY, x.pour(0, BOTTOM, 2, 1, 1000000));
        due("a wrong amount before too many", BAD_VALUE, x.pour(0, TOP, 1, 0, 1000001));
        due("the last one", 10000000, x.pour(0, TOP, 1, 0, 1));
        due("one above", TOO_MANY, x.pour(0, TOP, 1, 0, 1));
        due("another colour has room", 1000000, x.pour(1, TOP, 1, 0, 1000000));
        due("all in the cell", 10000000, x.dye(0, TOP, 1, 0));
        pourIntoTurnedRing();
    }

    private static void pourIntoTurnedRing() {
        DyeTank x = still(3);
        x.spin(1, 149);
        x.tick(1);
        x.pour(0, TOP, 1, 0, 7);
        x.spin(1, 1);
        x.tick(1);
        due("at 150 the cell is in the next sector", 7, x.dye(0, TOP, 1, 1));
        x.pour(0, TOP, 1, 0, 8);
        due("what was poured is in its sector", 8, x.dye(0, TOP, 1, 0));
        x.spin(1, -150);
        x.tick(1);
        due("the later one back in the last sector", 8, x.dye(0, TOP, 1, 23));
        due("the earlier one back in the first", 7, x.dye(0, TOP, 1, 0));
    }

    private static void promise7Tick() {
        DyeTank x = new DyeTank();
        int[] wrong = {0, -1, 1001, LEAST, GREATEST};
        for (int ticks : wrong) {
            due("tick(" + ticks + ")", BAD_VALUE, x.tick(ticks));
        }
        due("tick(1)", 1, x.tick(1));
        due("tick(999)", 1000, x.tick(999));
        for (int times = 2; times <= 99; times++) {
            due("tick(1000)", 1000 * times, x.tick(1000));
        }
        due("tick(1)", 99001, x.tick(1));
        x.spin(0, 100);
        due("a tick beyond the last time", NOT_POSSIBLE, x.tick(1000));
        due("did not begin", 100, x.ring(0, 0));
        due("the time stays", 99001, x.state(0));
        due("up to the last time", 100000, x.tick(999));
        due("no more", NOT_POSSIBLE, x.tick(1));
        due("a wrong number is told first", BAD_VALUE, x.tick(1001));
        due("a forecast's time is not limited", 0, x.settles(1000, 1));
        x.set(SHEAR, 0);
        x.set(FLOOR, 100);
        x.spin(0, 1000);
        due("a forecast goes on behind the last time: 900, 810, 729", 3, x.settles(800, 10));
    }

    private static void tickMomenta() {
        DyeTank x = still(3);
        x.set(SHEAR, 100);
        x.spin(0, 100);
        x.tick(1);
        due("shear takes it all from ring 0", 0, x.ring(0, 1));
        due("shear gives it to ring 1", 100, x.ring(1, 1));
        due("shear by the velocities of before", 0, x.ring(2, 1));
        x = still(2);
        x.set(SHEAR, 33);
        x.spin(0, -10);
        x.tick(1);
        due("shear is rounded toward 0", -7, x.ring(0, 1));
        due("shear loses nothing", -3, x.ring(1, 1));
        x = still(2);
        x.set(WALL, 100);
        x.set(WALL_SPEED, 1500);
        x.tick(1);
        due("the wall moves the last ring", 1500, x.ring(1, 1));
        due("the wall moves no other", 0, x.ring(0, 1));
        x.tick(1);
        due("the wall moves it less", 2500, x.ring(1, 1));
        x.set(SHEAR, 100);
        x.set(WALL_SPEED, 833);
        x.tick(1);
        due("the wall by the velocity of before", 2500 - 833, x.ring(1, 1));
        tickFloor();
    }

    /** The most rings, markers and colours: every row is used up to its end. */
    private static void tickOfAll() {
        DyeTank x = still(12);
        x.set(EKMAN, 100);
        x.spin(11, -100);
        x.spin(10, 100);
        for (int number = 0; number < 6; number++) {
            x.marker(11999 - number, 0);
        }
        for (int colour = 0; colour < 3; colour++) {
            x.pour(colour, BOTTOM, 10, 23, 1000);
            x.pour(colour, TOP, 11, 23, 1000);
        }
        due("a tick of all", 1, x.tick(1));
        for (int colour = 0; colour < 3; colour++) {
            due("inward from 11", 100, x.dye(colour, TOP, 10, 22));
            due("inward from 10", 100, x.dye(colour, BOTTOM, 9, 23));
            due("a forecast", 0, x.arrives(colour, 11, 450, 1));
            due("a forecast of more", NONE, x.arrives(colour, 11, 451, 3));
        }
        for (int number = 0; number < 6; number++) {
            due("marker " + number, 11899 - number, x.where(number, 0));
        }
        due("how rings settle", NONE, x.settles(99, 5));
        x.pour(0, BOTTOM, 0, 0, 7);
        due("all but 7 of what was poured below is below", 1000, x.colour(0, 1));
        x.set(MIX, 500);
        x.set(FLOOR, 100);
        x.set(FLOOR_SPEED, 1500);
        x.spin(11, -1500);
        due("another tick of all", 2, x.tick(1));
        due("the floor's greatest part: 6900000 / 1000", -34500 + 6900, x.ring(11, 1));
        due("none is lost", 2007, x.colour(0, 0));
    }

    private static void tickFloor() {
        DyeTank x = still(3);
        x.set(FLOOR, 100);
        x.set(FLOOR_SPEED, -1500);
        x.tick(1);
        due("the floor and ring 0", -150, x.ring(0, 1));
        due("the floor and ring 1", -450, x.ring(1, 1));
        due("the floor and ring 2", -750, x.ring(2, 1));
        x.set(FLOOR_SPEED, 1500);
        x.spinAll(1490, 509);
        x.tick(1);
        due("the floor and ring 2: 495500 / 1000", 509 * 5 + 495, x.ring(2, 1));
        x = still(3);
        x.set(FLOOR, 5);
        x.spinAll(90, 90);
        x.tick(1);
        due("the floor: 450 / 1000", 90, x.ring(0, 1));
        due("the floor: 1350 / 1000", 269, x.ring(1, 1));
        due("the floor: 2250 / 1000", 448, x.ring(2, 1));
        due("the velocity of 269 / 3", 89, x.ring(1, 0));
        due("the angle is by the new velocity", 89, x.ring(1, 2));
    }

    private static void tickAngles() {
        DyeTank x = still(2);
        x.spin(0, 1500);
        x.spin(1, -1);
        x.tick(2);
        due("angle of 0", 3000, x.ring(0, 2));
        due("angle of 1", 3598, x.ring(1, 2));
        x.tick(1);
        due("angle of 0 goes round", 900, x.ring(0, 2));
        due("angle of 1 behind 3", 3597, x.ring(1, 2));
    }

    private static void tickPushesDye() {
        DyeTank x = still(3);
        x.set(EKMAN, 100);
        x.spin(1, 100);
        x.pour(0, TOP, 1, 5, 1000);
        x.pour(1, BOTTOM, 1, 5, 1009);
        x.tick(1);
        due("TOP outward", 100, x.dye(0, TOP, 2, 5));
        due("TOP stays", 900, x.dye(0, TOP, 1, 5));
        due("TOP not inward", 0, x.ring(0, 4));
        due("BOTTOM inward, rounded down", 100, x.dye(1, BOTTOM, 0, 5));
        due("BOTTOM stays", 909, x.dye(1, BOTTOM, 1, 5));
        due("BOTTOM not outward", 0, x.ring(2, 5));
        x = still(3);
        x.set(EKMAN, 100);
        x.spin(1, -100);
        x.pour(0, TOP, 1, 5, 1000);
        x.pour(1, BOTTOM, 1, 5, 1000);
        x.tick(1);
        due("TOP inward", 100, x.dye(0, TOP, 0, 4));
        due("BOTTOM outward", 100, x.dye(1, BOTTOM, 2, 4));
        due("the rest turned with its ring", 900, x.dye(1, BOTTOM, 1, 4));
        pushAtEdges();
        pushFromBefore();
        pushBetweenTurnedRings();
        pushByFloorSpeed();
    }

    private static void pushAtEdges() {
        DyeTank x = still(2);
        x.set(EKMAN, 200);
        x.spinAll(100, 100);
        x.pour(0, BOTTOM, 0, 0, 1000);
        x.pour(1, TOP, 1, 0, 1000);
        x.tick(1);
        due("nothing beyond the innermost", 1000, x.dye(0, BOTTOM, 0, 0));
        due("nothing beyond the outermost", 1000, x.dye(1, TOP, 1, 0));
        x.spinAll(-100, -100);
        x.pour(0, TOP, 0, 0, 500);
        x.pour(1, BOTTOM, 1, 0, 500);
        x.tick(1);
        due("nothing beyond the innermost, other way", 1500, x.colour(0, 0));
        due("TOP stays in 0", 500, x.dye(0, TOP, 0, 0));
        due("BOTTOM stays in 1", 500, x.dye(1, BOTTOM, 1, 0));
    }

    private static void pushFromBefore() {
        DyeTank x = still(4);
        x.set(EKMAN, 200);
        x.spinAll(1500, 1500);
        for (int times = 0; times < 10; times++) {
            x.pour(0, BOTTOM, 3, 0, 1000000);
        }
        x.pour(1, TOP, 0, 0, 1000);
        x.tick(1);
        due("the push has a limit", 5000000, x.ring(3, 4));
        due("half went inward", 5000000, x.ring(2, 4));
        due("and not further", 0, x.ring(1, 4));
        due("half went outward", 500, x.ring(1, 5));
        due("and not further", 0, x.ring(2, 5));
        due("in the sector of now", 5000000, x.dye(0, BOTTOM, 2, 10));
        x.tick(1);
        due("two rings on", 2500000, x.ring(1, 4));
        due("from both", 5000000, x.ring(2, 4));
    }

    private static void pushBetweenTurnedRings() {
        DyeTank x = still(3);
        x.set(EKMAN, 20);
        x.spinAll(-300, 300);
        x.pour(0, BOTTOM, 2, 5, 1000);
        x.tick(1);
        due("ring 2 has turned by two sectors", 940, x.dye(0, BOTTOM, 2, 7));
        due("ring 1, in the same sector", 60, x.dye(0, BOTTOM, 1, 7));
        x.spin(2, 0);
        x.spin(1, 3 * 150);
        x.tick(1);
        due("ring 1 has turned by three", 60 - 60 * 90 / 1000, x.dye(0, BOTTOM, 1, 10));
        due("ring 0, in the same sector", 5, x.dye(0, BOTTOM, 0, 10));
        due("ring 2 has not turned", 940, x.dye(0, BOTTOM, 2, 7));
    }

    private static void pushByFloorSpeed() {
        DyeTank x = still(2);
        x.set(EKMAN, 50);
        x.set(FLOOR_SPEED, 21);
        x.pour(0, TOP, 1, 0, 1000);
        x.tick(1);
        due("a push of -10: rounded toward 0", 10, x.ring(0, 4));
        due("TOP goes inward", 10, x.dye(0, TOP, 0, 0));
    }

    private static void tickMixesDye() {
        DyeTank x = still(2);
        x.set(MIX, 500);
        x.pour(0, TOP, 0, 3, 1003);
        x.pour(1, BOTTOM, 1, 4, 7);
        for (int times = 0; times < 10; times++) {
            x.pour(2, BOTTOM, 1, 0, 1000000);
        }
        x.tick(1);
        due("from TOP", 1003 - 250, x.dye(0, TOP, 0, 3));
        due("to BOTTOM", 250, x.dye(0, BOTTOM, 0, 3));
        due("from BOTTOM, rounded toward 0", 6, x.dye(1, BOTTOM, 1, 4));
        due("to TOP", 1, x.dye(1, TOP, 1, 4));
        due("as much as there can be", 2500000, x.dye(2, TOP, 1, 0));
        x.tick(1);
        due("by the difference", 753 - 125, x.dye(0, TOP, 0, 3));
        x.set(MIX, 1);
        x.pour(1, TOP, 1, 9, 4000);
        x.tick(1);
        due("the least MIX", 2, x.dye(1, BOTTOM, 1, 9));
        x = still(2);
        x.set(EKMAN, 100);
        x.set(MIX, 500);
        x.spin(0, 100);
        x.pour(0, TOP, 0, 0, 1000);
        x.tick(1);
        due("mixed behind the push: ring 0", 675, x.dye(0, TOP, 0, 0));
        due("mixed behind the push: ring 0, below", 225, x.dye(0, BOTTOM, 0, 0));
        due("mixed behind the push: ring 1", 75, x.dye(0, TOP, 1, 0));
        due("mixed behind the push: ring 1, below", 25, x.dye(0, BOTTOM, 1, 0));
    }

    private static void tickMovesMarkers() {
        DyeTank x = still(2);
        x.set(EKMAN, 200);
        x.spin(0, -400);
        x.spin(1, 1500);
        x.marker(450, 100);
        x.marker(1600, 3000);
        x.tick(1);
        due("inward, not below 0", 0, x.where(0, 0));
        due("turned back", 3300, x.where(0, 1));
        due("outward, not beyond", 1999, x.where(1, 0));
        due("turned on", 900, x.where(1, 1));
        x.marker(999, 0);
        x.spin(0, 10);
        x.tick(1);
        due("into the next ring, with the velocity of its own", 10, x.where(2, 1));
        due("and by the push of its own", 1019, x.where(2, 0));
    }

    private static void promise8Ring() {
        DyeTank x = new DyeTank();
        x.spin(2, -301);
        x.pour(0, TOP, 2, 0, 5);
        x.pour(0, BOTTOM, 2, 9, 6);
        x.pour(1, BOTTOM, 2, 9, 40);
        x.pour(2, TOP, 2, 9, 300);
        x.pour(2, TOP, 3, 9, 1);
        long[] due = {-301, -1505, 0, -150, 11, 40, 300};
        for (int what = 0; what < 7; what++) {
            due("ring(2, " + what + ")", due[what], x.ring(2, what));
        }
        x.set(EKMAN, 200);
        due("the push by the settings of now", -500, x.ring(2, 3));
        x.set(FLOOR_SPEED, -300);
        due("the push by the floor's speed", -2, x.ring(2, 3));
        x.set(FLOOR_SPEED, -1500);
        due("the greatest push", 500, x.ring(2, 3));
        int[] wrongRings = {-1, 6, LEAST, GREATEST};
        for (int ring : wrongRings) {
            due("ring(" + ring + ", 9)", NO_SUCH_GONE, x.ring(ring, 9));
        }
        int[] wrong = {-1, 7, LEAST, GREATEST};
        for (int what : wrong) {
            due("ring(5, " + what + ")", BAD_VALUE_GONE, x.ring(5, what));
        }
    }

    private static void promise9Dye() {
        DyeTank x = still(6);
        for (int sector = 0; sector < 24; sector++) {
            x.pour(1, BOTTOM, 5, sector, sector + 1);
        }
        for (int sector = 0; sector < 24; sector++) {
            due("dye(1, 1, 5, " + sector + ")", sector + 1, x.dye(1, BOTTOM, 5, sector));
            due("dye in TOP", 0, x.dye(1, TOP, 5, sector));
            due("dye of another colour", 0, x.dye(2, BOTTOM, 5, sector));
            due("dye in another ring", 0, x.dye(1, BOTTOM, 4, sector));
        }
        x.spin(5, -149);
        x.tick(1);
        due("a little back is a sector back", 1, x.dye(1, BOTTOM, 5, 23));
        due("sector 0 then", 2, x.dye(1, BOTTOM, 5, 0));
        int[][] noSuch = {{-1, 0, 0, 0}, {3, 0, 0, 0}, {0, -1, 0, 0}, {0, 2, 0, 0}, {0, 0, -1, 0}, {0, 0, 6, 0},
            {0, 0, 0, -1}, {0, 0, 0, 24}, {GREATEST, 0, 0, 0}, {0, LEAST, 0, 0}, {0, 0, GREATEST, 0}, {0, 0, 0, LEAST}};
        for (int[] place : noSuch) {
            due("dye nowhere", NO_SUCH, x.dye(place[0], place[1], place[2], place[3]));
        }
    }

    private static void promise10Colour() {
        DyeTank x = new DyeTank();
        x.setUp(2);
        x.pour(0, TOP, 0, 0, 1);
        x.pour(0, BOTTOM, 1, 7, 2);
        x.pour(1, TOP, 1, 3, 3);
        x.pour(1, TOP, 1, 3, 3);
        x.pour(1, TOP, 1, 4, 5);
        long[] due = {3, 1, 2, 2, 666, 5};
        long[] other = {11, 11, 2, 6, 1000, 21};
        long[] none = {0, 0, 0, 0, NONE, 0};
        for (int what = 0; what < 6; what++) {
            due("colour(0, " + what + ")", due[what], x.colour(0, what));
            due("colour(1, " + what + ")", other[what], x.colour(1, what));
            due("colour(2, " + what + ")", none[what], x.colour(2, what));
        }
        int[] wrongColours = {-1, 3, LEAST, GREATEST};
        for (int colour : wrongColours) {
            due("colour(" + colour + ", 9)", NO_SUCH, x.colour(colour, 9));
        }
        int[] wrong = {-1, 6, LEAST, GREATEST};
        for (int what : wrong) {
            due("colour(2, " + what + ")", BAD_VALUE, x.colour(2, what));
        }
        x.setUp(2);
        x.pour(2, TOP, 0, 0, 48);
        due("all in the first cell: the greatest amount", 48, x.colour(2, 3));
        due("all in the first cell: the number of cells", 1, x.colour(2, 2));
        due("all in the first cell: an unevenness without a rest", 95, x.colour(2, 5));
        x.setUp(12);
        for (int times = 0; times < 10; times++) {
            x.pour(0, TOP, 11, 23, 1000000);
        }
        due("the greatest unevenness: 2 * all * 575 / 576", 19965277, x.colour(0, 5));
        due("the greatest place", 11000, x.colour(0, 4));
        due("the greatest amount", 10000000, x.colour(0, 3));
    }

    private static void promise11State() {
        DyeTank x = new DyeTank();
        x.setUp(3);
        x.set(SHEAR, 1);
        x.set(WALL, 2);
        x.set(WALL_SPEED, -3);
        x.set(FLOOR, 4);
        x.set(FLOOR_SPEED, -5);
        x.set(EKMAN, 6);
        x.set(MIX, 7);
        x.marker(0, 0);
        x.marker(0, 0);
        x.tick(4);
        x.say('t');
        x.spin(0, 10);
        x.spin(1, -20);
        x.spin(2, 9);
        long[] due = {4, 3, 2, 10 - 60 + 45, 30, 1, 1, 2, -3, 4, -5, 6, 7};
        for (int what = 0; what < 13; what++) {
            due("state(" + what + ")", due[what], x.state(what));
        }
        x.spin(2, 100);
        due("the last two rings", 120, x.state(4));
        int[] wrong = {-1, 13, LEAST, GREATEST};
        for (int what : wrong) {
            due("state(" + what + ")", BAD_VALUE_GONE, x.state(what));
        }
    }

    private static void promise12Marker() {
        DyeTank x = new DyeTank();
        int[][] wrong = {{-1, 0}, {6000, 0}, {0, -1}, {0, 3600}, {LEAST, 0}, {GREATEST, 0}, {0, LEAST}, {0, GREATEST}};
        for (int[] pair : wrong) {
            due("a wrong marker", BAD_VALUE, x.marker(pair[0], pair[1]));
        }
        due("none is put in", 0, x.state(2));
        for (int number = 0; number < 6; number++) {
            due("marker " + number, number, x.marker(5999 - number, 3599 - number));
        }
        due("the seventh", TOO_MANY, x.marker(0, 0));
        due("a wrong seventh", BAD_VALUE, x.marker(6000, 0));
        for (int number = 0; number < 6; number++) {
            due("place of " + number, 5999 - number, x.where(number, 0));
            due("angle of " + number, 3599 - number, x.where(number, 1));
        }
        x.tick(2);
        x.save(0);
        due("forecasts of six", 0, x.meet(5, 5, 0, 1));
        x.restore(0);
        due("the last of six, saved", 2, x.where(5, 3));
        x.setUp(12);
        due("the outermost of 12 rings", 0, x.marker(11999, 0));
        due("beyond 12 rings", BAD_VALUE, x.marker(12000, 0));
    }

    private static void promise13Where() {
        DyeTank x = still(3);
        x.set(EKMAN, 100);
        x.spin(0, 100);
        x.marker(950, 10);
        int[] before = {950, 10, 0, 0, 0};
        int[] behind = {1050, 110, 1, 1, 1};
        for (int what = 0; what < 5; what++) {
            due("before: where(0, " + what + ")", before[what], x.where(0, what));
        }
        x.tick(1);
        for (int what = 0; what < 5; what++) {
            due("behind: where(0, " + what + ")", behind[what], x.where(0, what));
        }
        x.tick(5);
        due("no crossing in a ring at rest", 1, x.where(0, 4));
        due("six kept", 6, x.where(0, 3));
        x.spin(1, -100);
        x.tick(1);
        due("back again", 950, x.where(0, 0));
        due("two crossings", 2, x.where(0, 4));
        x.tick(100);
        due("in turns in ring 0 and 1: one crossing a tick", 102, x.where(0, 4));
        due("fifty kept", 50, x.where(0, 3));
        x.marker(0, 0);
        due("a later one has none kept", 0, x.where(1, 3));
        int[] wrongMarkers = {-1, 2, 6, LEAST, GREATEST};
        for (int marker : wrongMarkers) {
            due("where(" + marker + ", 9)", NO_SUCH, x.where(marker, 9));
        }
        int[] wrong = {-1, 5, LEAST, GREATEST};
        for (int what : wrong) {
            due("where(0, " + what + ")", BAD_VALUE, x.where(0, what));
        }
    }

    private static void promise14Path() {
        DyeTank x = still(2);
        x.set(EKMAN, 100);
        x.spin(0, 7);
        x.marker(3, 3590);
        due("nothing kept when put in", NONE, x.path(0, 0, 0));
        x.tick(1);
        due("the place behind the tick", 10, x.path(0, 0, 0));
        due("the angle behind the tick", 3597, x.path(0, 0, 1));
        due("not that at which it was put in", NONE, x.path(0, 1, 0));
        x.tick(49);
        due("the first of fifty", 10, x.path(0, 49, 0));
        due("no more than fifty", NONE, x.path(0, 50, 1));
        x.tick(1);
        for (int back = 0; back < 50; back++) {
            due("path(0, " + back + ", 0)", 3 + 7 * (51 - back), x.path(0, back, 0));
            due("path(0, " + back + ", 1)", (3590 + 7 * (51 - back)) % 3600, x.path(0, back, 1));
        }
        due("the first is gone", NONE, x.path(0, 50, 0));
        due("below 0", NONE, x.path(0, -1, 0));
        due("far below 0", NONE, x.path(0, LEAST, 0));
        due("far back", NONE, x.path(0, GREATEST, 1));
        int[] wrongMarkers = {-1, 1, 6, LEAST, GREATEST};
        for (int marker : wrongMarkers) {
            due("path(" + marker + ", -1, 9)", NO_SUCH, x.path(marker, -1, 9));
        }
        int[] wrong = {-1, 2, LEAST, GREATEST};
        for (int what : wrong) {
            due("path(0, -1, " + what + ")", BAD_VALUE, x.path(0, -1, what));
        }
    }

    private static void promise15Settles() {
        DyeTank x = still(2);
        x.set(FLOOR, 100);
        x.spin(0, 100);
        due("settles(100, 1)", 0, x.settles(100, 1));
        due("settles(99, 1)", 1, x.settles(99, 1));
        due("settles(90, 1)", 1, x.settles(90, 1));
        due("settles(89, 1)", NONE, x.settles(89, 1));
        due("settles(81, 9)", 2, x.settles(81, 9));
        due("settles(73, 3)", 3, x.settles(73, 3));
        due("settles(72, 3)", NONE, x.settles(72, 3));
        due("a copy only", 100, x.ring(0, 0));
        due("a copy's time", 0, x.state(0));
        due("a copy's angle", 0, x.ring(0, 2));
        x.set(FLOOR_SPEED, -900);
        due("settles(1000, 1)", 0, x.settles(1000, 1));
        due("ring 0: 100, 0, -90 and ring 1: 0, -90, -171", 1, x.settles(900, 2));
        due("ring 0 is not within 899 before", 2, x.settles(899, 2));
        x.spin(0, -1000);
        x.spin(1, -900);
        due("slower than the floor by 100", 1, x.settles(99, 1));
        due("slower than the floor: -1000, -990, -981", 2, x.settles(81, 2));
        x.spinAll(-900, -899);
        due("each ring counts", NONE, x.settles(0, 1000));
        x.spin(1, -900);
        due("settles(0, 1000)", 0, x.settles(0, 1000));
        int[][] wrong = {{-1, 1}, {1001, 1}, {0, 0}, {0, 1001}, {LEAST, 1}, {GREATEST, 1}, {0, LEAST}, {0, GREATEST}};
        for (int[] pair : wrong) {
            due("settles out of range", BAD_VALUE, x.settles(pair[0], pair[1]));
        }
    }

    private static void promise16Arrives() {
        DyeTank x = still(3);
        x.set(EKMAN, 100);
        x.spin(1, 100);
        due("none of it", NOT_POSSIBLE, x.arrives(0, 2, 1, 1));
        x.pour(0, TOP, 1, 0, 1000);
        due("there at once", 0, x.arrives(0, 1, 1000, 1));
        due("a tenth", 1, x.arrives(0, 2, 100, 1));
        due("a little more", 2, x.arrives(0, 2, 101, 2));
        due("190", 2, x.arrives(0, 2, 190, 500));
        due("191, too late", NONE, x.arrives(0, 2, 191, 2));
        due("191", 3, x.arrives(0, 2, 191, 3));
        due("271", 3, x.arrives(0, 2, 271, 3));
        due("343", 4, x.arrives(0, 2, 343, 500));
        due("never inward", NONE, x.arrives(0, 0, 1, 500));
        due("a copy only", 1000, x.ring(1, 4));
        due("a copy's time", 0, x.state(0));
        x.pour(0, BOTTOM, 2, 0, 1);
        due("both layers, of all", 0, x.arrives(0, 1, 999, 1));
        due("both layers, of all", NONE, x.arrives(0, 1, 1000, 1));
        int[][] noSuch = {{-1, 0}, {3, 0}, {0, -1}, {0, 3}, {LEAST, 0}, {0, GREATEST}};
        for (int[] pair : noSuch) {
            due("arrives nowhere", NO_SUCH, x.arrives(pair[0], pair[1], 0, 0));
        }
        int[][] wrong = {{0, 1}, {1001, 1}, {1, 0}, {1, 501}, {LEAST, 1}, {1, GREATEST}};
        for (int[] pair : wrong) {
            due("arrives out of range", BAD_VALUE, x.arrives(0, 0, pair[0], pair[1]));
            due("arrives out of range, without dye", BAD_VALUE, x.arrives(1, 0, pair[0], pair[1]));
        }
    }

    private static void promise17Meet() {
        DyeTank x = still(3);
        x.set(EKMAN, 100);
        x.spin(0, 50);
        x.marker(900, 3400);
        x.marker(1500, 3560);
        due("in the same ring behind two ticks", 2, x.meet(0, 1, 60, 2));
        due("the other way round", 2, x.meet(1, 0, 60, 1000));
        due("not near enough", NONE, x.meet(0, 1, 59, 1000));
        due("too late", NONE, x.meet(0, 1, 60, 1));
        due("the same one", 0, x.meet(1, 1, 0, 1));
        x.marker(950, 1600);
        due("half round", 0, x.meet(0, 2, 1800, 1));
        due("less than half, when the one has waited in ring 1", 2, x.meet(0, 2, 1799, 1000));
        due("as near as they come", 2, x.meet(2, 0, 1750, 1000));
        due("not as near", NONE, x.meet(0, 2, 1749, 1000));
        x.marker(1000, 10);
        due("the lesser way round", 0, x.meet(1, 3, 50, 1));
        due("the lesser way round, other way", 0, x.meet(3, 1, 50, 1));
        due("not as near", NONE, x.meet(3, 1, 49, 1));
        due("a copy only", 900, x.where(0, 0));
        due("no path from a copy", 0, x.where(0, 3));
        due("a copy's time", 0, x.state(0));
        int[][] noSuch = {{-1, 0}, {4, 0}, {0, -1}, {0, 4}, {LEAST, 0}, {0, GREATEST}};
        for (int[] pair : noSuch) {
            due("meet of none", NO_SUCH, x.meet(pair[0], pair[1], -1, 0));
        }
        int[][] wrong = {{-1, 1}, {1801, 1}, {0, 0}, {0, 1001}, {LEAST, 1}, {0, GREATEST}};
        for (int[] pair : wrong) {
            due("meet out of range", BAD_VALUE, x.meet(0, 0, pair[0], pair[1]));
        }
    }

    private static void promise18LeastEkman() {
        DyeTank x = still(2);
        x.spin(1, 100);
        x.set(EKMAN, 77);
        due("none of it", NOT_POSSIBLE, x.leastEkman(0, 0, 1));
        x.pour(0, BOTTOM, 1, 0, 1000);
        due("as it is", 0, x.leastEkman(0, 1000, 1));
        due("place 999", 1, x.leastEkman(0, 999, 1));
        due("place 950", 50, x.leastEkman(0, 950, 1));
        due("place 800", 200, x.leastEkman(0, 800, 1));
        due("place 799", NONE, x.leastEkman(0, 799, 1));
        due("place 640 behind two ticks", 200, x.leastEkman(0, 640, 2));
        due("place 639 behind two ticks", NONE, x.leastEkman(0, 639, 2));
        due("the greatest place", 0, x.leastEkman(0, 11000, 50));
        due("the setting stays", 77, x.state(11));
        due("a copy only", 1000, x.ring(1, 4));
        due("a copy's time", 0, x.state(0));
        int[] wrongColours = {-1, 3, LEAST, GREATEST};
        for (int colour : wrongColours) {
            due("leastEkman(" + colour + ", -1, 0)", NO_SUCH, x.leastEkman(colour, -1, 0));
        }
        int[][] wrong = {{-1, 1}, {11001, 1}, {0, 0}, {0, 51}, {LEAST, 1}, {0, GREATEST}};
        for (int[] pair : wrong) {
            due("leastEkman out of range", BAD_VALUE, x.leastEkman(0, pair[0], pair[1]));
            due("leastEkman out of range, without dye", BAD_VALUE, x.leastEkman(1, pair[0], pair[1]));
        }
    }

    private static void promise19Say() {
        DyeTank x = new DyeTank();
        int[] wrong = {32, 127, 0, -1, 65536 + 't', LEAST, GREATEST};
        for (int character : wrong) {
            due("say(" + character + ")", BAD_VALUE, x.say(character));
        }
        due("nothing was said", 0, x.state(5));
        due("say(33)", 1, x.say(33));
        due("say(126)", 2, x.say(126));
        for (int length = 3; length <= 60; length++) {
            due("say(65)", length, x.say(65));
        }
        due("the 61st", TOO_MANY, x.say(65));
        due("a wrong 61st", BAD_VALUE, x.say(32));
        due("sixty stay", 60, x.state(5));
        x.wipe();
        due("room again", 1, x.say(65));
    }

    private static void promise20Wipe() {
        DyeTank x = new DyeTank();
        due("wipe() of nothing", 0, x.wipe());
        say(x, "t1");
        due("wipe()", 2, x.wipe());
        due("wipe() again", 0, x.wipe());
        due("an empty pad", 0, x.state(5));
        due("an empty text", 0, x.fault());
        x.say('v');
        due("the new text alone", 1, x.fault());
    }

    private static void promise21Fault() {
        String[] correct = {"t1", "t9", "t10", "t999", "v0:0", "v11:1500", "v10:-1500", "v9:-0", "v1:150,t1", "v2:1499",
            "da^0:0=1", "db_11:23=999999", "dc^5:9=10", "t1,t2,t3,t4,t5,t6,t7,t8,t9,t1,t2,t3,t4,t5,t6,t7,t8,t9,t10,t1"};
        String[] wrong = {"", "t", "t0", "t01", "t1000", "t1,", "t1,,", "t1;", "T1", "v", "v-", "v01", "v12:0", "v20", "v1",
            "v1:", "v1:-", "v1:+", "v1:--", "v1:00", "v1:-01", "v1:1501", "v1:1510", "v1:1600", "v1:2000", "v1:15000",
            "v1:-1501", "d", "d^", "dd", "da", "dab", "da^", "da^12", "da^1", "da^1:", "da^1:24", "da^1:30", "da^1:01",
            "da^1:2", "da^1:2=", "da^1:2=0", "da^1:2=-", "da^1:2=1000000", "da^1:2=9999991", "da^1,", "t1,v",
            "v0:0:", "da_0=1", "v:0", "da^:1=1", "da^1:=1", "t1,t2,t3,t4,t5,t6,t7,t8,t9,t1,t2,t3,t4,t5,t6,t7,t8,t9,t1,t1,", "x"};
        int[] faults = {0, 1, 1, 1, 4, 3, 3, 2, 0, 1, 1, 2, 2, 2, 2,
            3, 4, 3, 4, 4, 5, 6, 6, 6, 6, 7,
            7, 1, 1, 1, 2, 2, 3, 4, 4, 5, 6, 6, 6,
            6, 7, 7, 7, 13, 13, 4, 4,
            4, 4, 1, 3, 5, 60, 0};
        DyeTank x = new DyeTank();
        for (String text : correct) {
            say(x, text);
            due("fault() of " + text, NONE, x.fault());
            due("the text stays", text.length(), x.state(5));
        }
        due("as many as wrong texts", wrong.length, faults.length);
        for (int index = 0; index < wrong.length; index++) {
            say(x, wrong[index]);
            due("fault() of " + wrong[index], faults[index], x.fault());
        }
    }

    private static void promise22CarryOut() {
        DyeTank x = new DyeTank();
        due("an empty text is not correct", BAD_TEXT, x.carryOut());
        say(x, "v1:100,t");
        due("a text that is not correct", BAD_TEXT, x.carryOut());
        due("it stays", 8, x.state(5));
        due("nothing was carried out", 0, x.ring(1, 0));
        say(x, "v1:-1500,v1:30,v1:-0,v5:1500,v0:-7");
        due("a velocity is no error", 5, x.carryOut());
        due("the pad is empty", 0, x.state(5));
        due("-0 is 0", 0, x.ring(1, 0));
        due("1500", 1500, x.ring(5, 0));
        due("-7", -7, x.ring(0, 0));
        say(x, "da^0:0=1,db_5:23=999999,dc^3:12=70,t3");
        due("pours and ticks", 4, x.carryOut());
        due("colour a", 1, x.colour(0, 1));
        due("colour b", 999999, x.colour(1, 0));
        due("colour c", 70, x.colour(2, 0));
        due("the time", 3, x.state(0));
        say(x, "dc_2:3=5");
        due("one step", 1, x.carryOut());
        due("colour c", 75, x.colour(2, 0));
        due("too little for mixing, and the latter below", 70, x.colour(2, 1));
        stepsThatFail(x);
        say(x, "t1,t1,t1,t1,t1,t1,t1,t1,t1,t1,t1,t1,t1,t1,t1,t1,t1,t1,t1,t2");
        due("as many steps as a pad can have", 20, x.carryOut());
        due("the time of all", 21, x.state(0));
    }

    private static void stepsThatFail(DyeTank x) {
        x.setUp(3);
        say(x, "v2:10,v3:10,t5");
        due("no such ring", 1, x.carryOut());
        due("the pad is empty", 0, x.state(5));
        due("the step before stands", 10, x.ring(2, 0));
        due("the step behind does not", 0, x.state(0));
        say(x, "da^3:0=1,t1");
        due("the first one fails", 0, x.carryOut());
        due("the pad is empty too", 0, x.state(5));
        due("and nothing was done", 0, x.state(0));
        for (int times = 0; times < 10; times++) {
            x.pour(1, TOP, 0, 0, 1000000);
        }
        say(x, "da^0:0=1,db^0:0=1,t1");
        due("too much of a colour", 1, x.carryOut());
        for (int times = 0; times < 99; times++) {
            x.tick(1000);
        }
        say(x, "t999,t1,t1,v0:5");
        due("beyond the last time", 2, x.carryOut());
        due("the last time", 100000, x.state(0));
        due("nothing behind the step that failed", 0, x.spin(0, 0));
        x.setUp(6);
    }

    private static void promise23Save() {
        DyeTank x = new DyeTank();
        due("save(0)", 0, x.save(0));
        x.tick(3);
        x.spin(1, 4);
        due("save(1)", 3, x.save(1));
        int[] wrong = {-1, 2, LEAST, GREATEST};
        for (int slot : wrong) {
            due("save(" + slot + ")", BAD_VALUE, x.save(slot));
        }
        x.tick(1);
        due("slot 0", 0, x.restore(0));
        due("slot 0 has no spin", 0, x.ring(1, 0));
        due("slot 1", 3, x.restore(1));
        due("slot 1 has it", 4, x.ring(1, 0));
        x.tick(5);
        due("save(1) again", 8, x.save(1));
        x.setUp(2);
        due("it was overwritten", 8, x.restore(1));
        due("the other was not", 0, x.restore(0));
    }

    private static void promise24Restore() {
        DyeTank x = still(3);
        int[] wrong = {-1, 2, LEAST, GREATEST};
        for (int slot : wrong) {
            due("restore(" + slot + ")", BAD_VALUE, x.restore(slot));
        }
        due("restore(0) of nothing", NOT_POSSIBLE, x.restore(0));
        x.set(EKMAN, 100);
        x.set(MIX, 123);
        x.spinAll(100, -30);
        x.pour(0, TOP, 1, 2, 900);
        x.pour(2, BOTTOM, 2, 2, 800);
        x.marker(950, 0);
        x.tick(3);
        x.say('t');
        List<Long> before = everything(x);
        x.save(0);
        due("restore(1) of nothing", NOT_POSSIBLE, x.restore(1));
        for (int times = 0; times < 2; times++) {
            x.say('1');
            x.tick(70);
            x.set(MIX, 1 + times);
            x.marker(5, 5);
            x.pour(0, TOP, 0, 0, 10);
            x.pour(1, TOP, 0, 0, 10);
            if (times == 1) {
                x.setUp(2);
                x.marker(7, 7);
                x.tick(1);
            }
            due("restore(0)", 3, x.restore(0));
            CHECK.same("everything behind restore " + times, before, everything(x));
            due("the pad is not restored", 2 + times, x.state(5));
        }
        due("it goes on from there", 4, x.tick(1));
        due("restore(0) once more", 3, x.restore(0));
        due("the other slot has nothing yet", NOT_POSSIBLE, x.restore(1));
    }
}
