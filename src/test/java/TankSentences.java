/** What the description says of the tank, its settings and its markers. */
final class TankSentences extends Sentences {
    static void test() {
        promise(0);
        rings();
        weights();
        velocities();
        cells();
        sectors();
        settings();
        markers();
    }

    private static void rings() {
        of("THE TANK has 2 to 12 rings, initially 6, numbered from the middle outward.");
        DyeTank x = new DyeTank();
        due("rings at first", 6, x.state(1));
        due("the outermost at first", 0, x.ring(5, 0));
        due("none beyond", NO_SUCH_GONE, x.ring(6, 0));
        due("one ring alone", BAD_VALUE, x.setUp(1));
        due("two rings", 6, x.setUp(2));
        due("thirteen rings", BAD_VALUE, x.setUp(13));
        due("twelve rings", 2, x.setUp(12));
        due("the outermost of twelve", 0, x.ring(11, 0));
        due("none beyond twelve", NO_SUCH_GONE, x.ring(12, 0));
        x.set(WALL, 100);
        x.set(WALL_SPEED, 1000);
        x.tick(1);
        due("the wall is at the ring 11", 1000, x.ring(11, 1));
        due("the middle is far from it", 0, x.ring(0, 1));
    }

    private static void weights() {
        of("The ring r has the weight 2 * r + 1, a momentum P, and an angle A from 0 to 3599, both initially 0;");
        DyeTank x = still(12);
        for (int ring = 0; ring < 12; ring++) {
            due("the momentum of " + ring + " at first", 0, x.ring(ring, 1));
            due("the angle of " + ring + " at first", 0, x.ring(ring, 2));
        }
        x.spinAll(1, 1);
        int[] weights = {1, 3, 5, 7, 9, 11, 13, 15, 17, 19, 21, 23};
        for (int ring = 0; ring < 12; ring++) {
            due("the weight of " + ring, weights[ring], x.ring(ring, 1));
        }
        x.spin(0, 1500);
        x.tick(2);
        x.spin(0, 599);
        x.tick(1);
        due("the greatest angle", 3599, x.ring(0, 2));
        x.spin(0, 1);
        x.tick(1);
        due("the angle behind it", 0, x.ring(0, 2));
        x.spin(0, -1);
        x.tick(1);
        due("the angle before 0", 3599, x.ring(0, 2));
    }

    private static void velocities() {
        of("its velocity is v = floor(P / weight), in tenths of a degree for each tick.");
        int[] velocities = {-2, -1, -1, -1, 0, 0, 0, 1, 1};
        for (int momentum = -4; momentum <= 4; momentum++) {
            DyeTank x = still(2);
            x.set(SHEAR, 100);
            x.spin(0, momentum);
            x.tick(1);
            due("the momentum that the ring 1 has got", momentum, x.ring(1, 1));
            due("the velocity of " + momentum + " / 3", velocities[momentum + 4], x.ring(1, 0));
        }
        DyeTank x = still(2);
        x.spin(0, 900);
        x.tick(1);
        due("900 tenths: a quarter of 3600", 900, x.ring(0, 2));
        x.tick(3);
        due("four times", 0, x.ring(0, 2));
    }

    private static void cells() {
        of("There are two layers, TOP (0) and BOTTOM (1), and three colours of dye, 0 to 2.");
        DyeTank x = new DyeTank();
        for (int colour = 0; colour < 3; colour++) {
            due("TOP of the colour " + colour, 4, x.pour(colour, 0, 0, 0, 4));
            due("BOTTOM of the colour " + colour, 9, x.pour(colour, 1, 0, 0, 5));
            due("what is in TOP", 4, x.colour(colour, 1));
        }
        due("no third layer", NO_SUCH, x.pour(0, 2, 0, 0, 1));
        due("no layer before", NO_SUCH, x.dye(0, -1, 0, 0));
        due("no fourth colour", NO_SUCH, x.pour(3, 0, 0, 0, 1));
        due("no colour before", NO_SUCH, x.dye(-1, 0, 0, 0));
        of("Each ring has in each layer 24 cells, 0 to 23, each of which contains an amount of each colour, initially 0.");
        for (int colour = 0; colour < 3; colour++) {
            eachCellOf(colour);
        }
        due("no cell beyond", NO_SUCH, x.dye(0, TOP, 0, 24));
        due("no cell before", NO_SUCH, x.dye(0, TOP, 0, -1));
    }

    /** Another amount in each cell of a tank of two rings: none of them stands in the place of another. */
    private static void eachCellOf(int colour) {
        DyeTank x = still(2);
        for (int index = 0; index < 96; index++) {
            due("at first", 0, x.dye(colour, index / 48, index / 24 % 2, index % 24));
            x.pour(colour, index / 48, index / 24 % 2, index % 24, index + 1);
        }
        for (int index = 0; index < 96; index++) {
            due("the cell of " + index, index + 1, x.dye(colour, index / 48, index / 24 % 2, index % 24));
            due("another colour", 0, x.dye((colour + 1) % 3, index / 48, index / 24 % 2, index % 24));
        }
        due("all cells", 96, x.colour(colour, 2));
        due("all amounts", 96 * 97 / 2, x.colour(colour, 0));
    }

    private static void sectors() {
        of("The cell c of the ring r is in the sector (c + floor(A / 150)) mod 24.");
        DyeTank x = still(2);
        x.pour(0, TOP, 1, 0, 1);
        x.pour(0, TOP, 1, 23, 24);
        x.spin(1, 149);
        x.tick(1);
        due("at 149, the cell 23", 24, x.dye(0, TOP, 1, 23));
        due("at 149, the cell 0", 1, x.dye(0, TOP, 1, 0));
        x.spin(1, 1);
        x.tick(1);
        due("at 150, the cell 23 is in the sector 0", 24, x.dye(0, TOP, 1, 0));
        due("at 150, the cell 0", 1, x.dye(0, TOP, 1, 1));
        due("at 150, the cell 22", 0, x.dye(0, TOP, 1, 23));
        x.spin(1, -151);
        x.tick(1);
        due("at 3599, the cell 0 is in the sector 23", 1, x.dye(0, TOP, 1, 23));
        due("at 3599, the cell 23", 24, x.dye(0, TOP, 1, 22));
        due("at 3599, the cell 1", 0, x.dye(0, TOP, 1, 0));
        x.pour(1, BOTTOM, 1, 0, 5);
        x.spin(1, 1);
        x.tick(1);
        due("at 0, the cell 1 into which was poured in the sector 0", 5, x.dye(1, BOTTOM, 1, 1));
        due("the ring 0 has not turned", 0, x.ring(0, 2));
    }

    private static void settings() {
        of("SHEAR (0 to 100, 20), ");
        dueSetting(SHEAR, 0, 100, 20);
        of("WALL (0 to 100, 10), ");
        dueSetting(WALL, 0, 100, 10);
        of("WALL_SPEED (-1500 to 1500, 0), ");
        dueSetting(WALL_SPEED, -1500, 1500, 0);
        of("FLOOR (0 to 100, 5), ");
        dueSetting(FLOOR, 0, 100, 5);
        of("FLOOR_SPEED (-1500 to 1500, 0), ");
        dueSetting(FLOOR_SPEED, -1500, 1500, 0);
        of("EKMAN (0 to 200, 50), ");
        dueSetting(EKMAN, 0, 200, 50);
        of("MIX (0 to 500, 20).");
        dueSetting(MIX, 0, 500, 20);
    }

    private static void dueSetting(int setting, int least, int greatest, int initial) {
        DyeTank x = new DyeTank();
        due("at first", initial, x.state(6 + setting));
        due("one below", BAD_VALUE_GONE, x.set(setting, least - 1));
        due("one above", BAD_VALUE_GONE, x.set(setting, greatest + 1));
        due("still as at first", initial, x.set(setting, least));
        due("the least", least, x.set(setting, greatest));
        due("the greatest", greatest, x.state(6 + setting));
        x.setUp(6);
        due("in a new tank", initial, x.state(6 + setting));
    }

    private static void markers() {
        of("There are up to 6 markers, each with a place from 0 to 1000 * (number of rings) - 1, and an angle from 0 to 3599.");
        DyeTank x = still(2);
        due("none at first", 0, x.state(2));
        due("the least place and angle", 0, x.marker(0, 0));
        due("the greatest place and angle", 1, x.marker(1999, 3599));
        due("a place below", BAD_VALUE, x.marker(-1, 0));
        due("a place beyond", BAD_VALUE, x.marker(2000, 0));
        due("an angle below", BAD_VALUE, x.marker(0, -1));
        due("an angle beyond", BAD_VALUE, x.marker(0, 3600));
        for (int number = 2; number < 6; number++) {
            due("marker " + number, number, x.marker(7, 7));
        }
        due("a seventh", TOO_MANY, x.marker(7, 7));
        due("six", 6, x.state(2));
        x.setUp(12);
        due("the greatest place in 12 rings", 0, x.marker(11999, 0));
        due("a place beyond 12 rings", BAD_VALUE, x.marker(12000, 0));
        of("It is in the ring (its place) / 1000.");
        x = still(3);
        int[] places = {0, 999, 1000, 1999, 2000, 2999};
        for (int number = 0; number < 6; number++) {
            x.marker(places[number], 0);
            due("the ring of " + places[number], number / 2, x.where(number, 2));
        }
        x.spin(1, 7);
        x.tick(1);
        for (int number = 0; number < 6; number++) {
            due("what turns with the ring 1: " + places[number], number / 2 == 1 ? 7 : 0, x.where(number, 1));
        }
    }
}
