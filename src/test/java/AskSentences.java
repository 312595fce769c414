/** The promises 8 to 14: the calls that ask what there is, and those of the markers. */
final class AskSentences extends Sentences {
    static void test() {
        ring();
        dye();
        colour();
        colourAnswers();
        state();
        stateOfSettings();
        marker();
        where();
        whereAnswers();
        path();
    }

    private static void ring() {
        promise(8);
        of("Returns a number about a ring.");
        DyeTank x = pushing(3);
        x.spinAll(10, 30);
        for (int ring = 0; ring < 3; ring++) {
            due("the number of " + ring, 10 + 10 * ring, x.ring(ring, 0));
        }
        of("- `ring`: the ring");
        x.setUp(12);
        due("the last of twelve", 0, x.ring(11, 0));
        x = pushing(3);
        x.spin(2, -301);
        of("- `what`: 0 for its velocity,");
        due("ring(2, 0)", -301, x.ring(2, 0));
        of("1 for its momentum,");
        due("ring(2, 1)", -1505, x.ring(2, 1));
        of("2 for its angle,");
        due("before a tick", 0, x.ring(2, 2));
        x.tick(1);
        due("behind a tick", 3299, x.ring(2, 2));
        of("3 for its push (by the velocity and the settings as they are now),");
        due("by the velocity", -301, x.ring(2, 3));
        x.set(EKMAN, 50);
        due("by the new EKMAN, at once", -150, x.ring(2, 3));
        x.set(FLOOR_SPEED, -300);
        due("by the new FLOOR_SPEED, at once", 0, x.ring(2, 3));
        x.spin(2, 1500);
        due("by the new velocity, at once", 500, x.ring(2, 3));
        of("4 to 6 for how much of the colours 0 to 2 it has in both layers");
        for (int colour = 0; colour < 3; colour++) {
            x.pour(colour, TOP, 1, 0, 5 + colour);
            x.pour(colour, BOTTOM, 1, 23, 100);
            x.pour(colour, BOTTOM, 2, 23, 1);
            due("the colour " + colour, 105 + colour, x.ring(1, 4 + colour));
        }
        of("Returns the number;");
        due("none of it", 0, x.ring(0, 6));
        pourMost(x, 0, TOP, 0, 0);
        due("TOO_MANY for the last million, so nine of them", 9000000, x.ring(0, 4));
        of("NO_SUCH minus GONE if there is no such ring;");
        for (int ring : new int[] {-1, 3, 12, LEAST, GREATEST}) {
            for (int what = -1; what <= 7; what++) {
                due("ring(" + ring + ", " + what + ")", NO_SUCH_GONE, x.ring(ring, what));
            }
        }
        of("BAD_VALUE minus GONE if what is not 0 to 6.");
        for (int what : new int[] {-1, 7, LEAST, GREATEST}) {
            due("ring(2, " + what + ")", BAD_VALUE_GONE, x.ring(2, what));
        }
    }

    private static void dye() {
        promise(9);
        of("Returns an amount of dye.");
        DyeTank x = still(3);
        due("none", 0, x.dye(1, BOTTOM, 2, 23));
        x.pour(1, BOTTOM, 2, 23, 9);
        due("nine", 9, x.dye(1, BOTTOM, 2, 23));
        of("- `colour`: 0 to 2");
        due("another colour", 0, x.dye(0, BOTTOM, 2, 23));
        x.pour(2, BOTTOM, 2, 23, 8);
        due("the last colour", 8, x.dye(2, BOTTOM, 2, 23));
        of("- `layer`: TOP or BOTTOM");
        due("TOP", 0, x.dye(1, TOP, 2, 23));
        due("BOTTOM", 9, x.dye(1, BOTTOM, 2, 23));
        of("- `ring`: the ring");
        due("another ring", 0, x.dye(1, BOTTOM, 1, 23));
        of("- `sector`: 0 to 23");
        for (int sector = 0; sector < 23; sector++) {
            due("another sector", 0, x.dye(1, BOTTOM, 2, sector));
        }
        of("Returns the amount in the cell that is in the sector;");
        x.spin(2, 149);
        x.tick(1);
        due("it has not left its sector", 9, x.dye(1, BOTTOM, 2, 23));
        x.spin(2, 1);
        x.tick(1);
        due("it has gone on beyond the last sector", 9, x.dye(1, BOTTOM, 2, 0));
        due("and is no longer in the last", 0, x.dye(1, BOTTOM, 2, 23));
        x.spin(2, -151);
        x.tick(1);
        due("it has gone back by two", 9, x.dye(1, BOTTOM, 2, 22));
        of("NO_SUCH if there is no such colour, layer, ring or sector.");
        for (int wrong : new int[] {-1, 24, LEAST, GREATEST}) {
            due("no colour " + wrong, NO_SUCH, x.dye(wrong, 0, 0, 0));
            due("no layer " + wrong, NO_SUCH, x.dye(0, wrong, 0, 0));
            due("no ring " + wrong, NO_SUCH, x.dye(0, 0, wrong, 0));
            due("no sector " + wrong, NO_SUCH, x.dye(0, 0, 0, wrong));
        }
        due("no colour 3", NO_SUCH, x.dye(3, 0, 0, 0));
        due("no layer 2", NO_SUCH, x.dye(0, 2, 0, 0));
        due("no ring 3", NO_SUCH, x.dye(0, 0, 3, 0));
    }

    /** Two rings; of the colour 0 three thirds, of 1 eleven in TOP of the outer ring, of 2 nothing. */
    private static DyeTank coloured() {
        DyeTank x = still(2);
        x.pour(0, TOP, 0, 0, 1);
        x.pour(0, BOTTOM, 1, 7, 2);
        x.pour(1, TOP, 1, 3, 3);
        x.pour(1, TOP, 1, 3, 3);
        x.pour(1, TOP, 1, 4, 5);
        return x;
    }

    private static DyeTank fullOfOne() {
        DyeTank x = still(12);
        pourMost(x, 2, BOTTOM, 11, 23);
        return x;
    }

    private static void dueColours(int what, long first, long second, long third, long full) {
        DyeTank x = coloured();
        due("colour(0, " + what + ")", first, x.colour(0, what));
        due("colour(1, " + what + ")", second, x.colour(1, what));
        due("of nothing", third, x.colour(2, what));
        due("of the most in one cell of twelve rings", full, fullOfOne().colour(2, what));
    }

    private static void colour() {
        promise(10);
        of("Returns a number about a colour.");
        due("the number of another colour is another", 11, coloured().colour(1, 0));
        of("- `colour`: 0 to 2");
        due("the first", 3, coloured().colour(0, 0));
        due("the last", 0, coloured().colour(2, 0));
        of("- `what`: 0 for how much of it the tank has,");
        dueColours(0, 3, 11, 0, 10000000);
        of("1 for how much of it is in TOP,");
        dueColours(1, 1, 11, 0, 0);
        DyeTank x = still(12);
        x.pour(0, BOTTOM, 0, 0, 5);
        due("nothing of what is in BOTTOM", 0, x.colour(0, 1));
        x.pour(0, TOP, 11, 23, 7);
        due("in TOP of the last ring", 7, x.colour(0, 1));
        of("2 for the number of cells that have it,");
        dueColours(2, 2, 2, 0, 1);
        x = still(2);
        x.pour(0, TOP, 0, 0, 48);
        due("the first cell", 1, x.colour(0, 2));
        x.pour(0, BOTTOM, 0, 0, 7);
        due("both layers in the same sector", 2, x.colour(0, 2));
        x.pour(0, BOTTOM, 0, 0, 7);
        due("no cell more", 2, x.colour(0, 2));
        of("3 for the greatest amount in a cell,");
        dueColours(3, 2, 6, 0, 10000000);
        due("in the first cell", 48, x.colour(0, 3));
        of("4 for its mean place: floor(1000 * (sum of amount * ring) / (all of it)), NONE if there is none of it,");
        dueColours(4, 666, 1000, NONE, 11000);
        x = still(3);
        x.pour(0, TOP, 0, 0, 1000);
        due("all in the middle", 0, x.colour(0, 4));
        x.pour(0, BOTTOM, 1, 0, 10);
        x.pour(0, TOP, 1, 0, 10);
        x.pour(0, BOTTOM, 2, 0, 30);
        due("1000 * 80 / 1050", 76, x.colour(0, 4));
        of("5 for its unevenness: the sum of the absolute values of amount * N - all over all N cells of the tank, divided by N "
                + "(rounded down)");
        dueColours(5, 5, 21, 0, 19965277);
        x = still(2);
        x.pour(0, TOP, 0, 0, 48);
        due("190 * 48 / 96", 95, x.colour(0, 5));
        x.pour(1, TOP, 0, 0, 1);
        due("190 / 96", 1, x.colour(1, 5));
        x.setUp(2);
        for (int cell = 0; cell < 96; cell++) {
            x.pour(2, cell / 48, cell / 24 % 2, cell % 24, 5);
        }
        due("quite even", 0, x.colour(2, 5));
        due("in all cells", 96, x.colour(2, 2));
    }

    private static void colourAnswers() {
        of("Returns the number;");
        DyeTank x = coloured();
        long[] numbers = {3, 1, 2, 2, 666, 5};
        for (int what = 0; what < 6; what++) {
            due("colour(0, " + what + ")", numbers[what], x.colour(0, what));
        }
        of("NO_SUCH if there is no such colour;");
        for (int colour : new int[] {-1, 3, LEAST, GREATEST}) {
            for (int what = -1; what <= 6; what++) {
                due("colour(" + colour + ", " + what + ")", NO_SUCH, x.colour(colour, what));
            }
        }
        of("BAD_VALUE if what is not 0 to 5.");
        for (int what : new int[] {-1, 6, LEAST, GREATEST}) {
            due("colour(0, " + what + ")", BAD_VALUE, x.colour(0, what));
            due("colour(2, " + what + ")", BAD_VALUE, x.colour(2, what));
        }
    }

    private static void state() {
        promise(11);
        DyeTank x = still(3);
        of("Returns a number about the tank.");
        due("three rings", 3, x.state(1));
        of("- `what`: 0 for the time,");
        due("at first", 0, x.state(0));
        x.tick(4);
        due("behind four ticks", 4, x.state(0));
        of("1 for the number of rings,");
        due("three", 3, x.state(1));
        of("2 for that of markers,");
        due("none", 0, x.state(2));
        for (int number = 1; number <= 6; number++) {
            x.marker(0, 0);
            due("markers", number, x.state(2));
        }
        of("3 for the sum of all momenta,");
        due("at rest", 0, x.state(3));
        x.spin(0, 10);
        x.spin(1, -20);
        x.spin(2, 9);
        due("10 - 60 + 45", -5, x.state(3));
        of("4 for the greatest absolute difference of the velocities of two neighbouring rings,");
        due("10 and -20", 30, x.state(4));
        x.spin(2, 100);
        due("-20 and 100", 120, x.state(4));
        x.spinAll(7, 7);
        due("all as fast", 0, x.state(4));
        x.spin(0, -100);
        x.spin(1, 0);
        x.spin(2, 100);
        due("not of rings that are not neighbours", 100, x.state(4));
        DyeTank most = still(12);
        most.spin(10, -1500);
        most.spin(11, 1500);
        due("the last two of twelve", 3000, most.state(4));
        of("5 for the length of the pad,");
        due("empty", 0, x.state(5));
        for (int length = 1; length <= 60; length++) {
            x.say('7');
            due("characters", length, x.state(5));
        }
    }

    private static void stateOfSettings() {
        of("6 to 12 for the settings SHEAR to MIX");
        DyeTank x = new DyeTank();
        int[] values = {1, 2, -3, 4, -5, 6, 7};
        for (int setting = 0; setting < 7; setting++) {
            x.set(setting, values[setting]);
        }
        for (int setting = 0; setting < 7; setting++) {
            due("state(" + (6 + setting) + ")", values[setting], x.state(6 + setting));
        }
        of("Returns the number;");
        x.spinAll(-1, -1);
        due("a number below 0", -36, x.state(3));
        of("BAD_VALUE minus GONE if what is not 0 to 12.");
        for (int what : new int[] {-1, 13, LEAST, GREATEST}) {
            due("state(" + what + ")", BAD_VALUE_GONE, x.state(what));
        }
    }

    private static void marker() {
        promise(12);
        of("Puts in a marker.");
        DyeTank x = pushing(2);
        x.marker(70, 80);
        due("its place", 70, x.where(0, 0));
        due("its angle", 80, x.where(0, 1));
        of("- `place`: 0 to 1000 * (number of rings) - 1");
        for (int rings : new int[] {2, 6, 12}) {
            x.setUp(rings);
            due("the least", 0, x.marker(0, 0));
            due("the greatest", 1, x.marker(1000 * rings - 1, 0));
            due("one beyond", BAD_VALUE, x.marker(1000 * rings, 0));
            due("where the greatest is", 1000 * rings - 1, x.where(1, 0));
        }
        of("- `angle`: 0 to 3599");
        x.marker(0, 3599);
        due("the least", 0, x.where(0, 1));
        due("the greatest", 3599, x.where(2, 1));
        of("Returns its number;");
        x.setUp(3);
        for (int number = 0; number < 6; number++) {
            due("number " + number, number, x.marker(number, number));
        }
        of("BAD_VALUE if an argument is out of range;");
        x.setUp(3);
        for (int wrong : new int[] {-1, 3600, LEAST, GREATEST}) {
            due("the place " + wrong, BAD_VALUE, x.marker(wrong, 0));
            due("the angle " + wrong, BAD_VALUE, x.marker(0, wrong));
        }
        due("the place 3000", BAD_VALUE, x.marker(3000, 0));
        due("none was put in", 0, x.state(2));
        of("TOO_MANY if there are 6 markers.");
        for (int number = 0; number < 6; number++) {
            x.marker(1, 1);
        }
        due("a seventh", TOO_MANY, x.marker(1, 1));
        due("six", 6, x.state(2));
        x.setUp(3);
        due("room in a new tank", 0, x.marker(1, 1));
    }

    private static void where() {
        promise(13);
        of("Returns a number about a marker.");
        DyeTank x = pushing(3);
        x.spin(0, 100);
        x.marker(950, 10);
        x.marker(2999, 20);
        due("of another marker", 2999, x.where(1, 0));
        of("- `marker`: the marker");
        due("the first", 10, x.where(0, 1));
        due("the second", 20, x.where(1, 1));
        of("- `what`: 0 for its place,");
        due("when put in", 950, x.where(0, 0));
        x.tick(1);
        due("behind a tick", 1050, x.where(0, 0));
        of("1 for its angle,");
        due("behind a tick", 110, x.where(0, 1));
        of("2 for its ring,");
        due("behind a tick", 1, x.where(0, 2));
        due("the outermost", 2, x.where(1, 2));
        of("3 for the number of kept positions,");
        due("behind a tick", 1, x.where(0, 3));
        x.tick(48);
        due("behind 49", 49, x.where(0, 3));
        x.tick(1);
        due("behind 50", 50, x.where(0, 3));
        x.tick(1);
        due("behind 51", 50, x.where(0, 3));
        x.tick(1000);
        due("behind many", 50, x.where(0, 3));
        x.marker(0, 0);
        due("of one that was put in just now", 0, x.where(2, 3));
    }

    private static void whereAnswers() {
        of("4 for the number of ticks behind which it was in another ring than before");
        DyeTank x = pushing(3);
        x.spin(0, 100);
        x.marker(950, 10);
        x.marker(800, 10);
        due("when put in", 0, x.where(0, 4));
        x.tick(1);
        due("into the ring 1", 1, x.where(0, 4));
        due("not yet", 0, x.where(1, 4));
        x.tick(5);
        due("not again in a ring at rest", 1, x.where(0, 4));
        due("from 900 to 1000", 1, x.where(1, 4));
        x.spin(1, -100);
        x.tick(1);
        due("back again", 2, x.where(0, 4));
        x.tick(100);
        due("in all ticks, not just in those that are kept", 102, x.where(0, 4));
        of("Returns the number;");
        int[] numbers = {950, 10, 0, 50, 102};
        for (int what = 0; what < 5; what++) {
            due("where(0, " + what + ")", numbers[what], x.where(0, what));
        }
        of("NO_SUCH if there is no such marker;");
        for (int marker : new int[] {-1, 2, 5, 6, LEAST, GREATEST}) {
            for (int what = -1; what <= 5; what++) {
                due("where(" + marker + ", " + what + ")", NO_SUCH, x.where(marker, what));
            }
        }
        of("BAD_VALUE if what is not 0 to 4.");
        for (int what : new int[] {-1, 5, LEAST, GREATEST}) {
            due("where(1, " + what + ")", BAD_VALUE, x.where(1, what));
        }
    }

    private static void path() {
        promise(14);
        of("Returns a kept position of a marker.");
        DyeTank x = pushing(2);
        x.spin(0, 7);
        x.marker(3, 3590);
        x.marker(1003, 5);
        x.tick(1);
        due("a place", 10, x.path(0, 0, 0));
        of("- `marker`: the marker");
        due("another one's", 1003, x.path(1, 0, 0));
        of("- `back`: 0 for that behind the latest tick, 1 for the one before, and so on");
        x.tick(1);
        due("the latest", 17, x.path(0, 0, 0));
        due("the one before", 10, x.path(0, 1, 0));
        x.tick(49);
        for (int back = 0; back < 50; back++) {
            due("path(0, " + back + ", 0)", 3 + 7 * (51 - back), x.path(0, back, 0));
        }
        of("- `what`: 0 for the place, 1 for the angle");
        for (int back = 0; back < 50; back++) {
            due("path(0, " + back + ", 1)", (3590 + 7 * (51 - back)) % 3600, x.path(0, back, 1));
        }
        of("Returns the number;");
        due("a place", 3 + 7 * 51, x.path(0, 0, 0));
        due("an angle", 7 * 51 - 10, x.path(0, 0, 1));
        of("NO_SUCH if there is no such marker;");
        for (int marker : new int[] {-1, 2, 6, LEAST, GREATEST}) {
            due("path(" + marker + ", 0, 0)", NO_SUCH, x.path(marker, 0, 0));
            due("path(" + marker + ", -1, 2)", NO_SUCH, x.path(marker, -1, 2));
        }
        of("BAD_VALUE if what is neither 0 nor 1;");
        for (int what : new int[] {-1, 2, LEAST, GREATEST}) {
            due("path(0, 0, " + what + ")", BAD_VALUE, x.path(0, 0, what));
            due("path(0, 50, " + what + ")", BAD_VALUE, x.path(0, 50, what));
        }
        of("NONE if there is no such position (also below 0).");
        for (int back : new int[] {-1, 50, 51, LEAST, GREATEST}) {
            due("path(0, " + back + ", 0)", NONE, x.path(0, back, 0));
            due("path(0, " + back + ", 1)", NONE, x.path(0, back, 1));
        }
        x.marker(0, 0);
        due("of one that was put in just now", NONE, x.path(2, 0, 0));
        x.tick(1);
        due("behind its first tick", 7, x.path(2, 0, 0));
        due("not that at which it was put in", NONE, x.path(2, 1, 0));
    }
}
