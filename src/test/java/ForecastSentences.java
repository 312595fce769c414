import java.util.List;

/** The promises 15 to 18: the forecasts. */
final class ForecastSentences extends Sentences {
    static void test() {
        copies();
        settles();
        settlesAnswers();
        arrives();
        arrivesAnswers();
        meet();
        meetAnswers();
        leastEkman();
        leastEkmanAnswers();
    }

    private static void copies() {
        promise(15);
        of("---- what if: everything happens in a copy, whose time is not limited");
        DyeTank x = forecastable();
        makeOld(x);
        due("the last time", NOT_POSSIBLE, x.tick(1));
        dueForecasts(x);
        due("still the last time", 100000, x.state(0));
        x = forecastable();
        dueForecasts(x);
        DyeTank other = forecastable();
        setMoving(other);
        other.tick(60);
        x.tick(60);
        dueSame("it goes on as without forecasts", everything(other), everything(x));
    }

    /** A tank at rest, with dye and markers in it. */
    private static DyeTank forecastable() {
        DyeTank x = pushing(3);
        x.pour(0, TOP, 1, 0, 1000);
        x.pour(1, BOTTOM, 1, 0, 1000);
        x.marker(900, 0);
        x.marker(1500, 0);
        return x;
    }

    private static void setMoving(DyeTank x) {
        x.spin(0, 50);
        x.spin(1, 100);
    }

    private static void dueForecasts(DyeTank x) {
        setMoving(x);
        say(x, "t1,");
        x.save(1);
        List<Long> before = everything(x);
        due("arrives(0, 2, 190, 9)", 2, x.arrives(0, 2, 190, 9));
        dueSame("the tank behind arrives()", before, everything(x));
        due("meet(0, 1, 1800, 9)", 2, x.meet(0, 1, 1800, 9));
        dueSame("the tank behind meet()", before, everything(x));
        due("leastEkman(1, 950, 1)", 50, x.leastEkman(1, 950, 1));
        dueSame("the tank behind leastEkman()", before, everything(x));
        x.set(FLOOR, 100);
        due("settles(90, 9)", 1, x.settles(90, 9));
        x.set(FLOOR, 0);
        dueSame("the tank behind settles()", before, everything(x));
        due("the pad", 3, x.fault());
        x.restore(1);
        dueSame("the slot", before, everything(x));
    }

    private static void settles() {
        of("Forecasts when the tank turns with its floor.");
        DyeTank x = still(2);
        x.set(FLOOR, 100);
        x.set(FLOOR_SPEED, 700);
        x.spin(1, 700);
        x.spin(0, 600);
        due("600, 610, 619", 2, x.settles(81, 9));
        x.set(FLOOR_SPEED, 0);
        due("not a tank that is at rest with itself", 1, x.settles(630, 9));
        of("- `band`: 0 to 1000");
        x = still(2);
        x.spin(0, 1000);
        due("the greatest", 0, x.settles(1000, 1));
        x.spin(0, 1001);
        due("more than the greatest", NONE, x.settles(1000, 1));
        x.spinAll(0, 0);
        due("the least", 0, x.settles(0, 1));
        x.spin(1, 1);
        due("more than the least", NONE, x.settles(0, 1));
        of("- `most`: 1 to 1000");
        x = slow();
        due("the greatest", 1000, x.settles(999, 1000));
        x.tick(999);
        due("the least", 1, x.settles(999, 1));
    }

    /** Two rings of which the inner one comes nearer to the floor by 1 a tick: from 1999 to 999 in 1000 ticks. */
    private static DyeTank slow() {
        DyeTank x = still(2);
        x.set(FLOOR, 1);
        x.set(FLOOR_SPEED, -1500);
        x.spin(0, 499);
        x.spin(1, -1500);
        return x;
    }

    private static void settlesAnswers() {
        of("Returns the least number of ticks, from 0 on, after which the velocity of each ring differs from FLOOR_SPEED by at "
                + "most band;");
        DyeTank x = still(2);
        x.set(FLOOR, 100);
        x.spin(0, 100);
        due("at once", 0, x.settles(100, 9));
        due("100, 90", 1, x.settles(99, 9));
        due("100, 90, 81", 2, x.settles(89, 9));
        due("just as much", 2, x.settles(81, 9));
        due("a little less", 3, x.settles(80, 9));
        x.spin(0, -100);
        due("slower than the floor", 2, x.settles(81, 9));
        due("slower than the floor", 3, x.settles(80, 9));
        x.spin(0, 0);
        x.spin(1, 50);
        due("the other ring: 150, 135", 1, x.settles(45, 9));
        due("the other ring: 150, 135, 122", 2, x.settles(44, 9));
        x = still(2);
        x.set(WALL, 100);
        x.set(WALL_SPEED, 1500);
        x.set(FLOOR_SPEED, 500);
        x.spin(0, 500);
        due("only once: 0, 500, 833", 1, x.settles(0, 1000));
        x.tick(2);
        due("not again", NONE, x.settles(0, 1000));
        of("BAD_VALUE if an argument is out of range;");
        for (int band : new int[] {-1, 1001, LEAST, GREATEST}) {
            due("settles(" + band + ", 1)", BAD_VALUE, x.settles(band, 1));
        }
        for (int most : new int[] {0, -1, 1001, LEAST, GREATEST}) {
            due("settles(0, " + most + ")", BAD_VALUE, x.settles(0, most));
        }
        of("NONE if it is greater than most.");
        x = slow();
        due("one too late", NONE, x.settles(999, 999));
        due("not too late", 999, x.settles(1000, 999));
        due("one too late", NONE, x.settles(1000, 998));
        due("far too late", NONE, x.settles(0, 1));
    }

    /**
     * Of a million in the ring 1, a thousandth goes to the ring 2 in each tick: 392826 behind 499, and 393433 behind 500; a
     * thousand stay in the ring 0, so that 393 thousandths of all are 393393.
     */
    private static DyeTank seeping() {
        DyeTank x = pushing(3);
        x.spin(1, 1);
        x.pour(0, TOP, 1, 0, 1000000);
        x.pour(0, TOP, 0, 0, 1000);
        return x;
    }

    private static void arrives() {
        promise(16);
        of("Forecasts when a ring has a part of a colour.");
        DyeTank x = pushing(3);
        x.spin(1, 100);
        x.pour(0, TOP, 1, 0, 1000);
        due("1000, 900, 810", 2, x.arrives(0, 2, 150, 9));
        of("- `colour`: 0 to 2");
        x.pour(2, BOTTOM, 1, 0, 1000);
        due("the last colour, inward", 2, x.arrives(2, 0, 150, 9));
        of("- `ring`: the ring");
        due("the ring where it is", 0, x.arrives(0, 1, 150, 9));
        due("the ring to which nothing goes", NONE, x.arrives(0, 0, 1, 9));
        of("- `share`: 1 to 1000, in thousandths of all of the colour in the tank");
        due("the greatest", 0, x.arrives(0, 1, 1000, 9));
        due("the least", 1, x.arrives(0, 2, 1, 9));
        x.pour(0, BOTTOM, 0, 0, 1000);
        due("of all in the tank: half", 0, x.arrives(0, 1, 500, 9));
        due("of all in the tank: more than half", NONE, x.arrives(0, 1, 501, 9));
        of("- `most`: 1 to 500");
        x = seeping();
        due("the greatest", 500, x.arrives(0, 2, 393, 500));
        x.tick(499);
        due("the least", 1, x.arrives(0, 2, 393, 1));
    }

    private static void arrivesAnswers() {
        of("Returns the least number of ticks, from 0 on, after which 1000 * (what the ring has in both layers) is at least "
                + "share * (all of it);");
        DyeTank x = pushing(3);
        x.spin(1, 100);
        x.pour(0, TOP, 1, 0, 1000);
        due("at once", 0, x.arrives(0, 1, 1000, 9));
        due("just as much", 1, x.arrives(0, 2, 100, 9));
        due("a little more", 2, x.arrives(0, 2, 101, 9));
        due("just 190", 2, x.arrives(0, 2, 190, 9));
        due("more than 190", 3, x.arrives(0, 2, 191, 9));
        x.pour(1, TOP, 2, 0, 5);
        x.pour(1, BOTTOM, 2, 0, 4);
        x.pour(1, BOTTOM, 0, 0, 1);
        due("nine tenths in both layers", 0, x.arrives(1, 2, 900, 9));
        due("not more", NONE, x.arrives(1, 2, 901, 9));
        x = still(2);
        pourMost(x, 0, TOP, 0, 0);
        due("all of the most", 0, x.arrives(0, 0, 1000, 1));
        due("nothing of the most", NONE, x.arrives(0, 1, 1, 1));
        x = still(2);
        for (int calls = 0; calls < 9; calls++) {
            x.pour(0, TOP, 0, 0, 1000000);
        }
        x.pour(0, TOP, 0, 0, 999999);
        x.pour(0, TOP, 1, 0, 1);
        due("all of the most but one", 0, x.arrives(0, 0, 999, 1));
        due("not all of the most", NONE, x.arrives(0, 0, 1000, 1));
        of("NO_SUCH if there is no such colour or ring;");
        for (int wrong : new int[] {-1, 3, LEAST, GREATEST}) {
            due("no colour " + wrong, NO_SUCH, x.arrives(wrong, 0, 1, 1));
            due("no ring " + wrong, NO_SUCH, x.arrives(0, wrong, 1, 1));
        }
        due("no ring 2", NO_SUCH, x.arrives(0, 2, 1, 1));
        of("BAD_VALUE if another argument is out of range;");
        for (int share : new int[] {0, -1, 1001, LEAST, GREATEST}) {
            due("the share " + share, BAD_VALUE, x.arrives(0, 0, share, 1));
        }
        for (int most : new int[] {0, -1, 501, LEAST, GREATEST}) {
            due("the most " + most, BAD_VALUE, x.arrives(0, 0, 1, most));
        }
        of("NOT_POSSIBLE if there is none of the colour;");
        due("none", NOT_POSSIBLE, x.arrives(1, 0, 1, 1));
        x.pour(1, BOTTOM, 1, 0, 1);
        due("a little", NONE, x.arrives(1, 0, 1, 1));
        of("NONE if the number is greater than most.");
        x = seeping();
        due("one too late", NONE, x.arrives(0, 2, 393, 499));
        due("at once is not too late", 0, x.arrives(0, 1, 999, 1));
        due("far too late", NONE, x.arrives(0, 2, 393, 1));
    }

    private static void meet() {
        promise(17);
        of("Forecasts when two markers are near each other.");
        DyeTank x = pushing(3);
        x.spin(0, 50);
        x.marker(900, 3400);
        x.marker(1500, 3560);
        due("900, 950, 1000 and 3400, 3450, 3500", 2, x.meet(0, 1, 60, 9));
        of("- `one`: a marker");
        due("the last", 2, x.meet(1, 0, 60, 9));
        of("- `other`: another marker, or the same one");
        due("the same one", 0, x.meet(0, 0, 0, 1));
        due("the last with itself", 0, x.meet(1, 1, 0, 1));
        of("- `near`: 0 to 1800");
        x = still(3);
        x.marker(1000, 0);
        x.marker(1999, 1800);
        x.marker(1500, 0);
        due("the greatest: half a turn", 0, x.meet(0, 1, 1800, 1));
        due("less than half a turn", NONE, x.meet(0, 1, 1799, 1));
        due("the least: no difference", 0, x.meet(0, 2, 0, 1));
        of("- `most`: 1 to 1000");
        x = crawling();
        due("the greatest", 1000, x.meet(0, 1, 1800, 1000));
        x.tick(999);
        due("the least", 1, x.meet(0, 1, 1800, 1));
    }

    /** A marker in the middle that goes outward by 1 a tick, and one in the next ring, at rest. */
    private static DyeTank crawling() {
        DyeTank x = pushing(3);
        x.spin(0, 1);
        x.marker(0, 0);
        x.marker(1999, 0);
        return x;
    }

    private static void meetAnswers() {
        of("Returns the least number of ticks, from 0 on, after which both are in the same ring, and their angles differ by at "
                + "most near (the lesser way round);");
        DyeTank x = pushing(3);
        x.marker(999, 7);
        x.marker(1000, 7);
        x.marker(1999, 3597);
        due("not in neighbouring rings", NONE, x.meet(0, 1, 1800, 1000));
        due("in the same ring, at once", 0, x.meet(1, 2, 10, 1));
        due("in the same ring, the other way", 0, x.meet(2, 1, 10, 1));
        due("not as near", NONE, x.meet(1, 2, 9, 1000));
        due("not as near, the other way", NONE, x.meet(2, 1, 9, 1000));
        x.spin(0, 1);
        due("when it has come to the next ring, with the angle 8", 1, x.meet(0, 1, 1, 9));
        due("not as near", NONE, x.meet(0, 1, 0, 9));
        x.spin(1, 500);
        due("only once: 999, 1000, 1500, and 1000, 1500, 2000", 1, x.meet(0, 1, 1800, 9));
        x.tick(2);
        due("in two rings", 1, x.where(0, 2));
        due("the one is ahead", 2, x.where(1, 2));
        due("again, when it has followed", 1, x.meet(0, 1, 1800, 9));
        x = crawling();
        due("the angle 1000 then", 1000, x.meet(0, 1, 1000, 1000));
        due("not as near", NONE, x.meet(0, 1, 999, 1000));
        of("NO_SUCH if there is no such marker;");
        for (int marker : new int[] {-1, 2, 6, LEAST, GREATEST}) {
            due("no marker " + marker, NO_SUCH, x.meet(marker, 0, 0, 1));
            due("no other marker " + marker, NO_SUCH, x.meet(0, marker, 0, 1));
            due("neither", NO_SUCH, x.meet(marker, marker, 0, 1));
        }
        of("BAD_VALUE if another argument is out of range;");
        for (int near : new int[] {-1, 1801, LEAST, GREATEST}) {
            due("near " + near, BAD_VALUE, x.meet(0, 0, near, 1));
        }
        for (int most : new int[] {0, -1, 1001, LEAST, GREATEST}) {
            due("most " + most, BAD_VALUE, x.meet(0, 0, 0, most));
        }
        of("NONE if the number is greater than most.");
        due("one too late", NONE, x.meet(0, 1, 1800, 999));
        x.tick(1);
        due("not too late", 999, x.meet(0, 1, 1800, 999));
        due("one too late", NONE, x.meet(0, 1, 1800, 998));
    }

    /** Of a thousand in BOTTOM of the ring 1, as many thousandths as EKMAN go inward in each tick. */
    private static DyeTank sinking() {
        DyeTank x = still(2);
        x.spin(1, 100);
        x.pour(0, BOTTOM, 1, 0, 1000);
        return x;
    }

    private static void leastEkman() {
        promise(18);
        of("Finds the least EKMAN with which a colour has a mean place (rounded down, as by colour()) of at most some place "
                + "after some ticks.");
        DyeTank x = sinking();
        due("at most 950", 50, x.leastEkman(0, 950, 1));
        x.pour(1, TOP, 0, 0, 1);
        x.pour(1, TOP, 1, 0, 2);
        due("666.67 is rounded down", 0, x.leastEkman(1, 666, 1));
        due("to no less", NONE, x.leastEkman(1, 665, 1));
        theLeastOfSome();
        of("- `colour`: 0 to 2");
        x.pour(2, BOTTOM, 1, 5, 1000);
        due("the last colour", 60, x.leastEkman(2, 940, 1));
        due("the first colour", 60, x.leastEkman(0, 940, 1));
        of("- `place`: 0 to 11000");
        due("the greatest", 0, x.leastEkman(0, 11000, 1));
        due("the least", NONE, x.leastEkman(0, 0, 1));
        x = still(12);
        x.pour(0, TOP, 0, 0, 5);
        x.pour(1, TOP, 11, 0, 5);
        due("the least: all in the middle", 0, x.leastEkman(0, 0, 1));
        due("the greatest: all in the last of twelve rings", 0, x.leastEkman(1, 11000, 1));
        due("less than the greatest", NONE, x.leastEkman(1, 10999, 1));
        of("- `ticks`: 1 to 50");
        x = still(2);
        x.spin(1, 1);
        x.pour(0, BOTTOM, 1, 0, 1000000);
        due("the least: 999 thousandths", 100, x.leastEkman(0, 999, 1));
        // By the EKMAN 100 a thousandth goes in each tick: 952173 are left behind 49, 951221 behind 50.
        due("the greatest", 100, x.leastEkman(0, 951, 50));
        due("one less", 200, x.leastEkman(0, 951, 49));
    }

    /**
     * The push of the ring 1 has its limit from EKMAN 34 on, while that of the ring 0 goes on growing: the mean place falls
     * to 267 at 34, and then rises.
     */
    private static void theLeastOfSome() {
        DyeTank x = still(2);
        x.spin(0, 100);
        x.spin(1, 1500);
        x.pour(0, BOTTOM, 1, 0, 1000);
        x.pour(0, TOP, 0, 0, 1000);
        due("the only ones at or below 267 begin at 34", 34, x.leastEkman(0, 267, 1));
        due("none below", NONE, x.leastEkman(0, 266, 1));
        due("at most 316, while it falls", 27, x.leastEkman(0, 316, 1));
    }

    private static void leastEkmanAnswers() {
        of("Returns the EKMAN, 0 to 200;");
        DyeTank x = sinking();
        due("the least", 0, x.leastEkman(0, 1000, 1));
        due("the next", 1, x.leastEkman(0, 999, 1));
        due("the greatest", 200, x.leastEkman(0, 800, 1));
        due("the greatest behind two ticks", 200, x.leastEkman(0, 640, 2));
        x.set(EKMAN, 77);
        due("whatever is set", 200, x.leastEkman(0, 800, 1));
        due("the setting stays", 77, x.state(11));
        of("NO_SUCH if there is no such colour;");
        for (int colour : new int[] {-1, 3, LEAST, GREATEST}) {
            due("no colour " + colour, NO_SUCH, x.leastEkman(colour, 0, 1));
        }
        of("BAD_VALUE if another argument is out of range;");
        for (int place : new int[] {-1, 11001, LEAST, GREATEST}) {
            due("the place " + place, BAD_VALUE, x.leastEkman(0, place, 1));
        }
        for (int ticks : new int[] {0, -1, 51, LEAST, GREATEST}) {
            due("the ticks " + ticks, BAD_VALUE, x.leastEkman(0, 1000, ticks));
        }
        of("NOT_POSSIBLE if there is none of the colour;");
        due("none", NOT_POSSIBLE, x.leastEkman(1, 11000, 1));
        x.pour(1, TOP, 0, 0, 1);
        due("a little", 0, x.leastEkman(1, 0, 1));
        of("NONE if there is no such EKMAN.");
        due("less than with the greatest", NONE, x.leastEkman(0, 799, 1));
        due("less than with the greatest, behind two ticks", NONE, x.leastEkman(0, 639, 2));
    }
}
