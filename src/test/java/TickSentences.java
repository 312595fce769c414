/** What the description says of the steps of a tick. */
final class TickSentences extends Sentences {
    static void test() {
        promise(0);
        fromTheBeginning();
        shear();
        wall();
        floor();
        newVelocities();
        angles();
        pushes();
        bottomInward();
        bottomOutward();
        top();
        notBeyond();
        fromBefore();
        mixing();
        markersTurn();
        markersMove();
        time();
        kept();
    }

    private static void dueMomenta(DyeTank x, int... momenta) {
        for (int ring = 0; ring < momenta.length; ring++) {
            due("the momentum of " + ring, momenta[ring], x.ring(ring, 1));
        }
    }

    private static void fromTheBeginning() {
        of("With the velocities v as they are at the beginning of the tick, and n rings:");
        DyeTank x = still(3);
        x.set(SHEAR, 100);
        x.spin(0, 100);
        x.tick(1);
        dueMomenta(x, 0, 100, 0);
        x = still(2);
        x.set(SHEAR, 100);
        x.set(WALL, 100);
        x.spin(0, 300);
        x.tick(1);
        dueMomenta(x, 0, 300);
        x = still(2);
        x.set(SHEAR, 100);
        x.set(FLOOR, 100);
        x.spin(0, 1000);
        x.tick(1);
        dueMomenta(x, -100, 1000);
        x = still(2);
        x.set(WALL, 100);
        x.set(FLOOR, 100);
        x.spin(1, 1000);
        x.tick(1);
        dueMomenta(x, 0, 3000 - 1000 - 300);
    }

    private static void shear() {
        of("for each ring r but the last one, SHEAR * (v of r - v of r + 1) / 100 is taken from the momentum of the ring r and "
                + "added to that of the ring r + 1;");
        DyeTank x = still(3);
        x.set(SHEAR, 100);
        x.spin(0, 10);
        x.spin(1, 20);
        x.spin(2, 50);
        x.tick(1);
        dueMomenta(x, 10 + 10, 60 - 10 + 30, 250 - 30);
        x = still(2);
        x.set(SHEAR, 33);
        x.spin(1, 10);
        x.tick(1);
        dueMomenta(x, 3, 27);
        x = still(2);
        x.set(SHEAR, 1);
        x.spin(0, 99);
        x.tick(1);
        dueMomenta(x, 99, 0);
        x.spin(0, 100);
        x.tick(1);
        dueMomenta(x, 99, 1);
        x = still(2);
        x.spinAll(1500, -1500);
        x.tick(1);
        dueMomenta(x, 1500, -4500);
        x.set(SHEAR, 100);
        x.tick(1);
        dueMomenta(x, -1500, -1500);
        x = still(12);
        x.set(SHEAR, 100);
        x.spin(11, 100);
        x.tick(1);
        due("the last but one", 100, x.ring(10, 1));
        due("the last", 2200, x.ring(11, 1));
        due("the momenta of all", 2300, x.state(3));
    }

    private static void wall() {
        of("WALL * (WALL_SPEED - v) / 100 is added to the momentum of the ring n - 1;");
        DyeTank x = still(3);
        x.set(WALL, 10);
        x.set(WALL_SPEED, -1500);
        x.tick(1);
        dueMomenta(x, 0, 0, -150);
        x = still(2);
        x.set(WALL, 33);
        x.set(WALL_SPEED, 10);
        x.tick(1);
        dueMomenta(x, 0, 3);
        x.spin(1, 20);
        x.tick(1);
        dueMomenta(x, 0, 57);
        x.spin(1, 10);
        x.tick(1);
        dueMomenta(x, 0, 30);
        x = still(12);
        x.set(WALL, 100);
        x.set(WALL_SPEED, 1500);
        x.spinAll(-1500, -1500);
        x.tick(1);
        due("the most that the wall adds", -1500 * 23 + 3000, x.ring(11, 1));
        due("nothing to the ring before", -1500 * 21, x.ring(10, 1));
        x.set(WALL, 0);
        x.tick(1);
        due("no wall", -1500 * 23 + 3000, x.ring(11, 1));
    }

    private static void floor() {
        of("and FLOOR * (FLOOR_SPEED - v) * weight / 1000 is added to that of each ring.");
        DyeTank x = still(3);
        x.set(FLOOR, 100);
        x.set(FLOOR_SPEED, -1500);
        x.tick(1);
        dueMomenta(x, -150, -450, -750);
        x = still(3);
        x.set(FLOOR, 5);
        x.spinAll(90, 90);
        x.tick(1);
        dueMomenta(x, 90, 270 - 1, 450 - 2);
        x = still(3);
        x.set(FLOOR, 5);
        x.set(FLOOR_SPEED, 90);
        x.tick(1);
        dueMomenta(x, 0, 1, 2);
        x = still(12);
        x.set(FLOOR, 100);
        x.set(FLOOR_SPEED, 1500);
        x.spinAll(-1500, -1500);
        x.tick(1);
        due("the most that the floor adds", -1500 * 23 + 6900, x.ring(11, 1));
        due("the most that it adds in the middle", -1500 + 300, x.ring(0, 1));
        x.set(FLOOR, 0);
        x.tick(1);
        due("no floor", -1200, x.ring(0, 1));
    }

    private static void newVelocities() {
        of("From here on, the velocities are those by the new momenta.");
        DyeTank x = pushing(2);
        x.set(FLOOR, 100);
        x.spin(0, 100);
        x.pour(0, TOP, 0, 0, 1000);
        x.marker(500, 0);
        x.tick(1);
        due("the velocity", 90, x.ring(0, 0));
        due("the angle", 90, x.ring(0, 2));
        due("what was pushed", 90, x.dye(0, TOP, 1, 0));
        due("the marker's angle", 90, x.where(0, 1));
        due("the marker's place", 590, x.where(0, 0));
        x = still(2);
        x.set(SHEAR, 100);
        x.set(FLOOR, 100);
        x.set(FLOOR_SPEED, 1500);
        x.spinAll(-1500, 1500);
        x.tick(1);
        due("a velocity that no call can give: 1500 + 300", 1800, x.ring(0, 0));
        due("the angle by it", 1800, x.ring(0, 2));
        due("the previous velocity", 1800, x.spin(0, 0));
    }

    private static void angles() {
        of("The angle of each ring becomes (A + v) mod 3600.");
        DyeTank x = still(3);
        x.spin(0, 1500);
        x.spin(1, -1500);
        x.tick(2);
        due("3000", 3000, x.ring(0, 2));
        due("-3000", 600, x.ring(1, 2));
        x.tick(1);
        due("4500", 900, x.ring(0, 2));
        due("-4500", 2700, x.ring(1, 2));
        due("a ring at rest", 0, x.ring(2, 2));
        x.spinAll(-900, 900);
        x.tick(1);
        due("back to 0", 0, x.ring(0, 2));
        x.spin(0, -1);
        x.tick(1);
        due("before 0", 3599, x.ring(0, 2));
        x.spin(0, 1);
        x.tick(1);
        due("3600 is 0", 0, x.ring(0, 2));
    }

    private static void pushes() {
        of("The push of a ring is EKMAN * (v - FLOOR_SPEED) / 100, limited to the range from -500 to 500.");
        int[] velocities = {-1500, -501, -500, -499, -1, 0, 1, 499, 500, 501, 1500};
        int[] byHundred = {-500, -500, -500, -499, -1, 0, 1, 499, 500, 500, 500};
        DyeTank x = pushing(2);
        for (int index = 0; index < 11; index++) {
            x.spin(1, velocities[index]);
            due("the push by " + velocities[index], byHundred[index], x.ring(1, 3));
        }
        x.set(FLOOR_SPEED, 1500);
        due("nothing as fast as the floor", 0, x.ring(1, 3));
        x.spin(1, -1500);
        x.set(EKMAN, 200);
        due("the least by numbers", -500, x.ring(1, 3));
        x.set(EKMAN, 16);
        due("16 * -3000 / 100", -480, x.ring(1, 3));
        x.set(EKMAN, 0);
        due("no EKMAN", 0, x.ring(1, 3));
        x = still(2);
        x.set(EKMAN, 200);
        x.spin(1, 1500);
        x.pour(0, BOTTOM, 1, 0, 1000);
        x.marker(1000, 0);
        x.spin(0, -1500);
        x.marker(999, 0);
        x.tick(1);
        due("half of the dye", 500, x.ring(0, 4));
        due("half a ring outward", 1500, x.where(0, 0));
        due("half a ring inward", 499, x.where(1, 0));
    }

    private static void bottomInward() {
        of("From each cell of the BOTTOM layer of a ring with a push x above 0, amount * x / 1000 of each colour goes to the "
                + "cell of the next inner ring that is in the same sector (by the angles of now),");
        DyeTank x = pushing(3);
        x.spin(1, 100);
        x.pour(0, BOTTOM, 1, 5, 1009);
        x.pour(1, BOTTOM, 1, 5, 9);
        x.pour(2, BOTTOM, 1, 5, 10);
        x.pour(2, BOTTOM, 1, 6, 20);
        x.tick(1);
        due("100.9", 100, x.dye(0, BOTTOM, 0, 5));
        due("what stays", 909, x.dye(0, BOTTOM, 1, 5));
        due("0.9", 0, x.dye(1, BOTTOM, 0, 5));
        due("1", 1, x.dye(2, BOTTOM, 0, 5));
        due("another cell", 2, x.dye(2, BOTTOM, 0, 6));
        due("nothing into the other layer", 0, x.dye(0, TOP, 0, 5));
        due("nothing outward", 0, x.ring(2, 4));
        x = pushing(3);
        x.spin(1, 1);
        x.pour(0, BOTTOM, 1, 0, 999);
        x.pour(1, BOTTOM, 1, 0, 1000);
        x.tick(1);
        due("the least push of 999", 0, x.ring(0, 4));
        due("the least push of 1000", 1, x.ring(0, 5));
        acrossTurnedRings();
        theMostDye();
    }

    private static void acrossTurnedRings() {
        DyeTank x = still(2);
        x.set(EKMAN, 20);
        x.spin(0, 450);
        x.spin(1, 300);
        x.pour(0, BOTTOM, 1, 23, 1000);
        x.tick(1);
        due("two sectors on, beyond the last", 940, x.dye(0, BOTTOM, 1, 1));
        due("into the same sector", 60, x.dye(0, BOTTOM, 0, 1));
        x.tick(1);
        due("what came before has gone on by three", 60, x.dye(0, BOTTOM, 0, 4));
        due("56.4 have followed", 56, x.dye(0, BOTTOM, 0, 3));
        x.spin(0, 1);
        x.spin(1, 1);
        x.set(EKMAN, 1);
        x.tick(1);
        due("no push of 1 / 100", 116, x.ring(0, 4));
    }

    private static void theMostDye() {
        DyeTank x = still(12);
        x.set(EKMAN, 200);
        x.spin(11, 1500);
        pourMost(x, 2, BOTTOM, 11, 0);
        x.tick(1);
        due("half of the most that there can be", 5000000, x.dye(2, BOTTOM, 10, 10));
        due("the other half", 5000000, x.dye(2, BOTTOM, 11, 10));
    }

    private static void bottomOutward() {
        of("and from one with a push x below 0, amount * (-x) / 1000 to that of the next outer ring;");
        DyeTank x = pushing(3);
        x.spin(1, -100);
        x.pour(0, BOTTOM, 1, 0, 1009);
        x.pour(1, BOTTOM, 1, 0, 9);
        x.tick(1);
        due("100.9", 100, x.dye(0, BOTTOM, 2, 23));
        due("what stays", 909, x.dye(0, BOTTOM, 1, 23));
        due("0.9", 0, x.ring(2, 5));
        due("nothing inward", 0, x.ring(0, 4));
        x = pushing(3);
        x.spin(1, -1);
        x.pour(0, BOTTOM, 1, 0, 999);
        x.pour(1, BOTTOM, 1, 0, 1000);
        x.tick(1);
        due("the least push of 999", 0, x.ring(2, 4));
        due("the least push of 1000", 1, x.ring(2, 5));
    }

    private static void top() {
        of("in the TOP layer, it is the other way round (x above 0: outward; x below 0: inward).");
        DyeTank x = pushing(3);
        x.spin(1, 100);
        x.pour(0, TOP, 1, 5, 1009);
        x.tick(1);
        due("x above 0: outward", 100, x.dye(0, TOP, 2, 5));
        due("what stays", 909, x.dye(0, TOP, 1, 5));
        due("nothing inward", 0, x.ring(0, 4));
        x = pushing(3);
        x.spin(1, -100);
        x.pour(0, TOP, 1, 5, 1009);
        x.tick(1);
        due("x below 0: inward", 100, x.dye(0, TOP, 0, 4));
        due("what stays", 909, x.dye(0, TOP, 1, 4));
        due("nothing outward", 0, x.ring(2, 4));
        x = pushing(3);
        x.pour(0, TOP, 1, 5, 1000);
        x.pour(0, BOTTOM, 1, 5, 1000);
        x.tick(1);
        due("x is 0: nothing", 2000, x.ring(1, 4));
    }

    private static void notBeyond() {
        of("Nothing goes beyond the innermost and the outermost ring.");
        DyeTank x = pushing(2);
        x.spinAll(500, 500);
        x.pour(0, BOTTOM, 0, 0, 1000);
        x.pour(1, TOP, 1, 0, 1000);
        x.tick(1);
        due("BOTTOM of the innermost", 1000, x.dye(0, BOTTOM, 0, 3));
        due("TOP of the outermost", 1000, x.dye(1, TOP, 1, 3));
        x = pushing(12);
        x.spinAll(-500, -500);
        x.pour(0, TOP, 0, 0, 1000);
        x.pour(1, BOTTOM, 11, 0, 1000);
        x.tick(1);
        due("TOP of the innermost", 1000, x.dye(0, TOP, 0, 20));
        due("BOTTOM of the outermost", 1000, x.dye(1, BOTTOM, 11, 20));
        due("none is lost", 2000, x.colour(0, 0) + x.colour(1, 0));
    }

    private static void fromBefore() {
        of("All amounts are those from before this step.");
        DyeTank x = pushing(4);
        x.spinAll(500, 500);
        x.pour(0, BOTTOM, 3, 0, 1000);
        x.pour(1, TOP, 0, 0, 1000);
        x.pour(2, BOTTOM, 3, 0, 1000);
        x.pour(2, BOTTOM, 2, 0, 100);
        x.tick(1);
        due("inward by one ring", 500, x.ring(2, 4));
        due("and not by two", 0, x.ring(1, 4));
        due("outward by one ring", 500, x.ring(1, 5));
        due("and not by two", 0, x.ring(2, 5));
        due("in and out, inward", 550, x.ring(2, 6));
        due("half of 100 alone, inward", 50, x.ring(1, 6));
        x = pushing(4);
        x.spinAll(500, 500);
        x.pour(0, TOP, 0, 0, 1000);
        x.pour(0, TOP, 1, 0, 100);
        x.tick(1);
        due("in and out, outward", 550, x.ring(1, 4));
        due("half of 100 alone, outward", 50, x.ring(2, 4));
    }

    private static void mixing() {
        of("In each cell, for each colour, with t and b as the amounts in TOP and BOTTOM, (t - b) * MIX / 2000 goes from TOP to "
                + "BOTTOM (if it is negative, the other way).");
        int[] differences = {-8, -7, -4, -3, 0, 3, 4, 7, 8};
        int[] moved = {-2, -1, -1, 0, 0, 0, 1, 1, 2};
        for (int index = 0; index < 9; index++) {
            DyeTank x = still(2);
            x.set(MIX, 500);
            x.pour(0, TOP, 0, 3, 10 + differences[index]);
            x.pour(0, BOTTOM, 0, 3, 10);
            x.tick(1);
            due("in BOTTOM, by the difference " + differences[index], 10 + moved[index], x.dye(0, BOTTOM, 0, 3));
            due("in TOP", 10 + differences[index] - moved[index], x.dye(0, TOP, 0, 3));
        }
        DyeTank x = still(12);
        x.set(MIX, 1);
        x.pour(0, TOP, 11, 23, 1999);
        x.pour(1, TOP, 11, 23, 2000);
        x.pour(2, BOTTOM, 0, 0, 2000);
        x.tick(1);
        due("the least MIX of 1999", 0, x.dye(0, BOTTOM, 11, 23));
        due("the least MIX of 2000", 1, x.dye(1, BOTTOM, 11, 23));
        due("the least MIX of -2000", 1, x.dye(2, TOP, 0, 0));
        x.set(MIX, 0);
        x.tick(1);
        due("no MIX", 2000 - 1, x.dye(1, TOP, 11, 23));
        x = still(2);
        x.set(MIX, 500);
        pourMost(x, 0, TOP, 1, 0);
        pourMost(x, 1, BOTTOM, 1, 0);
        x.tick(1);
        due("the most downward", 2500000, x.dye(0, BOTTOM, 1, 0));
        due("the most upward", 2500000, x.dye(1, TOP, 1, 0));
        mixingBehindPushes();
    }

    private static void mixingBehindPushes() {
        DyeTank x = pushing(2);
        x.set(MIX, 500);
        x.spin(0, 100);
        x.pour(0, TOP, 0, 0, 1000);
        x.tick(1);
        due("900 in the ring 0 are mixed", 225, x.dye(0, BOTTOM, 0, 0));
        due("100 in the ring 1 are mixed", 25, x.dye(0, BOTTOM, 1, 0));
        due("100 less 25", 75, x.dye(0, TOP, 1, 0));
    }

    private static void markersTurn() {
        of("For each marker, with the ring in which it is: its angle becomes (angle + v) mod 3600,");
        DyeTank x = pushing(2);
        x.spin(0, 400);
        x.spin(1, -250);
        x.marker(0, 3300);
        x.marker(1999, 100);
        x.marker(700, 0);
        x.tick(1);
        due("beyond 3600", 100, x.where(0, 1));
        due("below 0", 3450, x.where(1, 1));
        due("with the ring that it leaves", 400, x.where(2, 1));
        due("which it has left", 1, x.where(2, 2));
        x.tick(1);
        due("with the ring to which it came", 150, x.where(2, 1));
        x.setUp(12);
        x.spin(11, 1);
        x.marker(11999, 3599);
        x.marker(11999, 3598);
        x.set(WALL, 0);
        x.set(SHEAR, 0);
        x.set(FLOOR, 0);
        x.tick(1);
        due("3600 is 0", 0, x.where(0, 1));
        due("3599", 3599, x.where(1, 1));
    }

    private static void markersMove() {
        of("and its place increases by the push of this ring, but becomes at least 0 and at most 1000 * n - 1.");
        DyeTank x = pushing(2);
        x.spin(0, -400);
        x.spin(1, 400);
        int[] places = {399, 400, 401, 1598, 1599, 1600};
        int[] then = {0, 0, 1, 1998, 1999, 1999};
        for (int number = 0; number < 6; number++) {
            x.marker(places[number], 0);
        }
        x.tick(1);
        for (int number = 0; number < 6; number++) {
            due("from " + places[number], then[number], x.where(number, 0));
        }
        x.tick(2);
        due("still at the middle", 0, x.where(0, 0));
        due("still at the wall", 1999, x.where(5, 0));
        x = pushing(12);
        x.spin(11, 500);
        x.marker(11499, 0);
        x.marker(11500, 0);
        x.spin(5, -500);
        x.marker(5499, 0);
        x.tick(1);
        due("to the wall of 12 rings", 11999, x.where(0, 0));
        due("not beyond it", 11999, x.where(1, 0));
        due("inward to the next ring", 4999, x.where(2, 0));
    }

    private static void time() {
        of("The time increases by 1.");
        DyeTank x = new DyeTank();
        due("at first", 0, x.state(0));
        x.tick(1);
        due("behind one", 1, x.state(0));
        x.tick(1000);
        due("behind many", 1001, x.state(0));
    }

    private static void kept() {
        of("The places and angles of each marker behind the latest 50 ticks since it was put in are kept.");
        DyeTank x = pushing(2);
        x.spin(0, 10);
        x.tick(5);
        x.marker(0, 0);
        due("nothing of what was before", 0, x.where(0, 3));
        due("no place of then", NONE, x.path(0, 0, 0));
        x.tick(49);
        x.marker(1000, 7);
        due("49 are kept", 49, x.where(0, 3));
        due("behind its first tick", 10, x.path(0, 48, 0));
        due("nothing before", NONE, x.path(0, 49, 0));
        x.tick(1);
        due("50 are kept", 50, x.where(0, 3));
        due("still behind its first tick", 10, x.path(0, 49, 1));
        due("of the other, only one", 1, x.where(1, 3));
        x.tick(1);
        due("no more than 50", 50, x.where(0, 3));
        due("behind its second tick", 20, x.path(0, 49, 1));
        due("the latest", 510, x.path(0, 0, 1));
        due("no 51st", NONE, x.path(0, 50, 0));
        due("of the other, two", 7, x.path(1, 1, 1));
        x.spin(1, 10);
        x.tick(120);
        due("the latest of many", 7 + 120 * 10, x.path(1, 0, 1));
        due("the first of the latest 50", 7 + 71 * 10, x.path(1, 49, 1));
    }
}
