/** Long runs of calls, chosen by a fixed sequence of numbers, are answered by the program as by the reference. */
final class RandomRunsTest {
    private static final int RUNS = 120, CALLS = 300;
    private static final int[] ODD = {-2147483648, 2147483647, -1, -2, 1000000, -1000000};

    private final Check check;
    private final DyeTank tank = new DyeTank();
    private final ReferenceTank reference = new ReferenceTank();
    private final int run;
    private long seed;

    private RandomRunsTest(Check check, int run) {
        this.check = check;
        this.run = run;
        this.seed = 88172645463325252L + run * 7919L;
    }

    public static void main(String[] args) {
        Check check = new Check("RandomRunsTest");
        for (int run = 0; run < RUNS && !check.anyWrong(); run++) {
            new RandomRunsTest(check, run).carryOut();
        }
        check.finish();
    }

    private int below(int bound) {
        seed = seed * 6364136223846793005L + 1442695040888963407L;
        return (int) Math.floorMod(seed >>> 33, (long) bound);
    }

    /** Mostly a number from least to greatest, often at its edges, seldom one beyond. */
    private int number(int least, int greatest) {
        int kind = below(40);
        if (kind == 0) return least - 1;
        if (kind == 1) return greatest + 1;
        if (kind == 2) return ODD[below(ODD.length)];
        if (kind <= 5) return least;
        if (kind <= 8) return greatest;
        return least + below(greatest - least + 1);
    }

    private int rings() {
        return (int) reference.state(1);
    }

    private void due(String call, long want, long got) {
        check.due("run " + run + ": " + call, want, got);
    }

    private void carryOut() {
        if (run % 3 != 0) {
            setUp(2 + below(11));
        }
        for (int calls = 0; calls < CALLS && !check.anyWrong(); calls++) {
            oneCall(below(100));
        }
        compareAll();
    }

    private void setUp(int rings) {
        due("setUp(" + rings + ")", reference.setUp(rings), tank.setUp(rings));
    }

    private void oneCall(int kind) {
        if (kind < 1) setUp(number(2, 12));
        else if (kind < 6) set();
        else if (kind < 12) spin();
        else if (kind < 16) spinAll();
        else if (kind < 28) pour();
        else if (kind < 40) tick();
        else if (kind < 45) ring();
        else if (kind < 50) dye();
        else if (kind < 56) colour();
        else if (kind < 60) state();
        else if (kind < 64) marker();
        else if (kind < 69) where();
        else if (kind < 74) path();
        else forecastOrText(kind);
    }

    private void forecastOrText(int kind) {
        if (kind < 76) settles();
        else if (kind < 79) arrives();
        else if (kind < 83) meet();
        else if (kind < 84) leastEkman();
        else if (kind < 92) text();
        else if (kind < 94) due("save", reference.save(kind - 92), tank.save(kind - 92));
        else if (kind < 95) saveOrRestore();
        else if (kind < 97) due("restore", reference.restore(kind - 95), tank.restore(kind - 95));
        else compareAll();
    }

    private void saveOrRestore() {
        int slot = number(0, 1);
        due("save(" + slot + ")", reference.save(slot), tank.save(slot));
        slot = number(0, 1);
        due("restore(" + slot + ")", reference.restore(slot), tank.restore(slot));
    }

    private void set() {
        int[] least = {0, 0, -1500, 0, -1500, 0, 0};
        int[] greatest = {100, 100, 1500, 100, 1500, 200, 500};
        int setting = number(0, 6);
        int value = setting >= 0 && setting <= 6 ? number(least[setting], greatest[setting]) : 0;
        due("set(" + setting + ", " + value + ")", reference.set(setting, value), tank.set(setting, value));
    }

    private void spin() {
        int ring = number(0, rings() - 1), velocity = number(-1500, 1500);
        due("spin(" + ring + ", " + velocity + ")", reference.spin(ring, velocity), tank.spin(ring, velocity));
    }

    private void spinAll() {
        int from = number(-1500, 1500), to = number(-1500, 1500);
        due("spinAll(" + from + ", " + to + ")", reference.spinAll(from, to), tank.spinAll(from, to));
    }

    private void pour() {
        int colour = number(0, 2), layer = number(0, 1), ring = number(0, rings() - 1), sector = number(0, 23);
        int amount = below(3) == 0 ? number(1, 50) : number(1, 1000000);
        due("pour(" + colour + ", " + layer + ", " + ring + ", " + sector + ", " + amount + ")",
                reference.pour(colour, layer, ring, sector, amount), tank.pour(colour, layer, ring, sector, amount));
    }

    private void tick() {
        int ticks = below(25) == 0 ? number(1, 1000) : number(1, 12);
        if (ticks > 100 && ticks <= 1000 && run % 10 != 0) {
            ticks = 60;
        }
        due("tick(" + ticks + ")", reference.tick(ticks), tank.tick(ticks));
    }

    private void ring() {
        int ring = number(0, rings() - 1), what = number(0, 6);
        due("ring(" + ring + ", " + what + ")", reference.ring(ring, what), tank.ring(ring, what));
    }

    private void dye() {
        int colour = number(0, 2), layer = number(0, 1), ring = number(0, rings() - 1), sector = number(0, 23);
        due("dye(" + colour + ", " + layer + ", " + ring + ", " + sector + ")",
                reference.dye(colour, layer, ring, sector), tank.dye(colour, layer, ring, sector));
    }

    private void colour() {
        int colour = number(0, 2), what = number(0, 5);
        due("colour(" + colour + ", " + what + ")", reference.colour(colour, what), tank.colour(colour, what));
    }

    private void state() {
        int what = number(0, 12);
        due("state(" + what + ")", reference.state(what), tank.state(what));
    }

    private void marker() {
        int place = number(0, 1000 * rings() - 1), angle = number(0, 3599);
        due("marker(" + place + ", " + angle + ")", reference.marker(place, angle), tank.marker(place, angle));
    }

    private int someMarker() {
        return number(0, (int) Math.max(0, reference.state(2) - 1));
    }

    private void where() {
        int marker = someMarker(), what = number(0, 4);
        due("where(" + marker + ", " + what + ")", reference.where(marker, what), tank.where(marker, what));
    }

    private void path() {
        int marker = someMarker(), back = number(0, 49), what = number(0, 1);
        due("path(" + marker + ", " + back + ", " + what + ")",
                reference.path(marker, back, what), tank.path(marker, back, what));
    }

    private void settles() {
        int band = number(0, below(2) == 0 ? 50 : 1000), most = below(10) == 0 ? number(1, 1000) : number(1, 60);
        due("settles(" + band + ", " + most + ")", reference.settles(band, most), tank.settles(band, most));
    }

    private void arrives() {
        int colour = number(0, 2), ring = number(0, rings() - 1);
        int share = number(1, below(2) == 0 ? 300 : 1000), most = below(10) == 0 ? number(1, 500) : number(1, 40);
        due("arrives(" + colour + ", " + ring + ", " + share + ", " + most + ")",
                reference.arrives(colour, ring, share, most), tank.arrives(colour, ring, share, most));
    }

    private void meet() {
        int one = someMarker(), other = someMarker(), near = number(0, below(2) == 0 ? 300 : 1800);
        int most = below(10) == 0 ? number(1, 1000) : number(1, 60);
        due("meet(" + one + ", " + other + ", " + near + ", " + most + ")",
                reference.meet(one, other, near, most), tank.meet(one, other, near, most));
    }

    private void leastEkman() {
        int colour = number(0, 2), ticks = number(1, 6);
        long mean = reference.colour(colour, 4);
        int place = mean > 0 && below(4) > 0 ? (int) mean - 100 + below(110) : number(0, 11000);
        if (ticks == 6 && run % 20 == 0) {
            ticks = 50;
        }
        due("leastEkman(" + colour + ", " + place + ", " + ticks + ")",
                reference.leastEkman(colour, place, ticks), tank.leastEkman(colour, place, ticks));
    }

    private void text() {
        int kind = below(8);
        if (kind == 0) {
            due("wipe()", reference.wipe(), tank.wipe());
        } else if (kind == 1) {
            int character = number(33, 126);
            due("say(" + character + ")", reference.say(character), tank.say(character));
        } else {
            due("wipe()", reference.wipe(), tank.wipe());
            sayProgram();
            if (kind == 2) {
                sayText(String.valueOf("tvdabc^_:=-,019".charAt(below(15))));
            }
        }
        due("fault()", reference.fault(), tank.fault());
        if (kind > 2) {
            due("carryOut()", reference.carryOut(), tank.carryOut());
        }
    }

    private void sayProgram() {
        int steps = 1 + below(5);
        for (int step = 0; step < steps; step++) {
            int kind = below(3);
            sayText(step == 0 ? "" : ",");
            if (kind == 0) {
                sayText("t" + (1 + below(9)));
            } else if (kind == 1) {
                sayText("v" + ringInText() + ":" + (below(2) == 0 ? "-" : "") + below(1501));
            } else {
                sayText("d" + "abc".charAt(below(3)) + "^_".charAt(below(2)) + ringInText() + ":" + below(24) + "="
                        + (1 + below(999999)));
            }
        }
    }

    private int ringInText() {
        return below(8) == 0 ? below(13) : below(rings());
    }

    private void sayText(String text) {
        for (int index = 0; index < text.length(); index++) {
            int character = text.charAt(index);
            due("say(" + character + ")", reference.say(character), tank.say(character));
        }
    }

    private void compareAll() {
        for (int what = 0; what <= 12; what++) {
            due("state(" + what + ")", reference.state(what), tank.state(what));
        }
        for (int ring = 0; ring < 12; ring++) {
            for (int what = 0; what <= 6; what++) {
                due("ring(" + ring + ", " + what + ")", reference.ring(ring, what), tank.ring(ring, what));
            }
        }
        for (int colour = 0; colour < 3; colour++) {
            for (int what = 0; what <= 5; what++) {
                due("colour(" + colour + ", " + what + ")", reference.colour(colour, what), tank.colour(colour, what));
            }
            compareDye(colour);
        }
        for (int marker = 0; marker < 6; marker++) {
            for (int what = 0; what <= 4; what++) {
                due("where(" + marker + ", " + what + ")", reference.where(marker, what), tank.where(marker, what));
            }
            for (int back = 0; back <= 50; back++) {
                due("path(" + marker + ", " + back + ", 0)", reference.path(marker, back, 0), tank.path(marker, back, 0));
                due("path(" + marker + ", " + back + ", 1)", reference.path(marker, back, 1), tank.path(marker, back, 1));
            }
        }
    }

    private void compareDye(int colour) {
        for (int layer = 0; layer < 2; layer++) {
            for (int ring = 0; ring < 12; ring++) {
                for (int sector = 0; sector < 24; sector++) {
                    due("dye(" + colour + ", " + layer + ", " + ring + ", " + sector + ")",
                            reference.dye(colour, layer, ring, sector), tank.dye(colour, layer, ring, sector));
                }
            }
        }
    }
}
