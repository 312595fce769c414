import java.util.Arrays;

/**
 * A round tank of water in rings that turn at different speeds, with dyes and markers in it.
 * All that a call needs is made by the constructor: no call makes an object or an array.
 */
public final class DyeTank {
    public static final int NO_SUCH = -1, BAD_VALUE = -2, BAD_TEXT = -3, TOO_MANY = -4, NOT_POSSIBLE = -5, NONE = -6;
    public static final int GONE = 1000000000;
    public static final int TOP = 0, BOTTOM = 1;
    public static final int SHEAR = 0, WALL = 1, WALL_SPEED = 2, FLOOR = 3, FLOOR_SPEED = 4, EKMAN = 5, MIX = 6;

    private static final int LEAST_RINGS = 2, FIRST_RINGS = 6, MOST_RINGS = 12;
    private static final int COLOURS = 3, LAYERS = 2, SECTORS = 24;
    private static final int FULL_TURN = 3600, SECTOR_WIDTH = 150;
    private static final int MOST_SPEED = 1500, MOST_PUSH = 500;
    private static final int MOST_POURED = 1000000, MOST_DYE = 10000000;
    private static final int MOST_TICKS = 1000, LAST_TIME = 100000;
    private static final int MARKERS = 6, RING_WIDTH = 1000, KEPT = 50;
    private static final int SLOTS = 2;
    private static final int PAD_LENGTH = 60, FIRST_CHARACTER = 33, LAST_CHARACTER = 126;

    private static final int SETTINGS = 7;
    private static final int[] LEAST_SETTING = {0, 0, -1500, 0, -1500, 0, 0};
    private static final int[] GREATEST_SETTING = {100, 100, 1500, 100, 1500, 200, 500};
    private static final int[] FIRST_SETTING = {20, 10, 0, 5, 0, 50, 20};

    private final Tank tank;
    private final Tank copy;
    private final Tank[] slots;
    private final boolean[] saved;
    private final Pad pad;

    public DyeTank() {
        tank = new Tank();
        copy = new Tank();
        slots = new Tank[SLOTS];
        for (int slot = 0; slot < SLOTS; slot++) {
            slots[slot] = new Tank();
        }
        saved = new boolean[SLOTS];
        pad = new Pad();
    }

    // ---- the tank

    public int setUp(int rings) {
        if (!within(rings, LEAST_RINGS, MOST_RINGS)) {
            return BAD_VALUE;
        }
        int before = tank.rings;
        tank.startAgain(rings);
        return before;
    }

    public int set(int setting, int value) {
        if (!within(setting, 0, SETTINGS - 1)
                || !within(value, LEAST_SETTING[setting], GREATEST_SETTING[setting])) {
            return BAD_VALUE - GONE;
        }
        int before = tank.settings[setting];
        tank.settings[setting] = value;
        return before;
    }

    public int spin(int ring, int velocity) {
        if (!tank.hasRing(ring)) {
            return NO_SUCH - GONE;
        }
        if (!isSpeed(velocity)) {
            return BAD_VALUE - GONE;
        }
        int before = tank.velocityOf(ring);
        tank.giveVelocity(ring, velocity);
        return before;
    }

    public int spinAll(int from, int to) {
        if (!isSpeed(from) || !isSpeed(to)) {
            return BAD_VALUE - GONE;
        }
        tank.giveVelocities(from, to);
        return tank.allMomenta();
    }

    public int pour(int colour, int layer, int ring, int sector, int amount) {
        if (!isPlaceOfDye(colour, layer, ring, sector)) {
            return NO_SUCH;
        }
        if (!within(amount, 1, MOST_POURED)) {
            return BAD_VALUE;
        }
        if (amount > MOST_DYE - tank.totals[colour]) {
            return TOO_MANY;
        }
        tank.dyes[colour][tank.cellIn(layer, ring, sector)] += amount;
        tank.totals[colour] += amount;
        return tank.totals[colour];
    }

    public int tick(int ticks) {
        if (!within(ticks, 1, MOST_TICKS)) {
            return BAD_VALUE;
        }
        if (ticks > LAST_TIME - tank.time) {
            return NOT_POSSIBLE;
        }
        for (int done = 0; done < ticks; done++) {
            tank.makeTick();
        }
        return tank.time;
    }

    // ---- what there is

    public int ring(int ring, int what) {
        if (!tank.hasRing(ring)) {
            return NO_SUCH - GONE;
        }
        switch (what) {
            case 0: return tank.velocityOf(ring);
            case 1: return tank.momenta[ring];
            case 2: return tank.angles[ring];
            case 3: return tank.pushOf(ring);
            case 4: return tank.amountInRing(0, ring);
            case 5: return tank.amountInRing(1, ring);
            case 6: return tank.amountInRing(2, ring);
            default: return BAD_VALUE - GONE;
        }
    }

    public int dye(int colour, int layer, int ring, int sector) {
        if (!isPlaceOfDye(colour, layer, ring, sector)) {
            return NO_SUCH;
        }
        return tank.dyes[colour][tank.cellIn(layer, ring, sector)];
    }

    public long colour(int colour, int what) {
        if (!isColour(colour)) {
            return NO_SUCH;
        }
        switch (what) {
            case 0: return tank.totals[colour];
            case 1: return tank.amountInTop(colour);
            case 2: return tank.cellsWith(colour);
            case 3: return tank.greatestAmount(colour);
            case 4: return tank.meanPlace(colour);
            case 5: return tank.unevenness(colour);
            default: return BAD_VALUE;
        }
    }

    public int state(int what) {
        if (within(what, 6, 5 + SETTINGS)) {
            return tank.settings[what - 6];
        }
        switch (what) {
            case 0: return tank.time;
            case 1: return tank.rings;
            case 2: return tank.markerCount;
            case 3: return tank.allMomenta();
            case 4: return tank.greatestShear();
            case 5: return pad.length;
            default: return BAD_VALUE - GONE;
        }
    }

    // ---- markers

    public int marker(int place, int angle) {
        if (!within(place, 0, tank.lastPlace()) || !within(angle, 0, FULL_TURN - 1)) {
            return BAD_VALUE;
        }
        int number = tank.markerCount;
        if (number >= MARKERS) {
            return TOO_MANY;
        }
        tank.markers[number].putIn(place, angle);
        tank.markerCount = number + 1;
        return number;
    }

    public int where(int marker, int what) {
        if (!tank.hasMarker(marker)) {
            return NO_SUCH;
        }
        Marker found = tank.markers[marker];
        switch (what) {
            case 0: return found.place;
            case 1: return found.angle;
            case 2: return found.ringNow();
            case 3: return found.kept;
            case 4: return found.crossings;
            default: return BAD_VALUE;
        }
    }

    public int path(int marker, int back, int what) {
        if (!tank.hasMarker(marker)) {
            return NO_SUCH;
        }
        if (!within(what, 0, 1)) {
            return BAD_VALUE;
        }
        Marker found = tank.markers[marker];
        if (!within(back, 0, found.kept - 1)) {
            return NONE;
        }
        return what == 0 ? found.placeBack(back) : found.angleBack(back);
    }

    // ---- what if: a copy makes only those steps of a tick that its question needs

    public int settles(int band, int most) {
        if (!within(band, 0, 1000) || !within(most, 1, 1000)) {
            return BAD_VALUE;
        }
        copy.becomeLike(tank);
        for (int ticks = 0; ticks <= most; ticks++) {
            if (copy.turnsWithFloor(band)) {
                return ticks;
            }
            copy.turn();
        }
        return NONE;
    }

    public int arrives(int colour, int ring, int share, int most) {
        if (!isColour(colour) || !tank.hasRing(ring)) {
            return NO_SUCH;
        }
        if (!within(share, 1, 1000) || !within(most, 1, 500)) {
            return BAD_VALUE;
        }
        if (tank.totals[colour] == 0) {
            return NOT_POSSIBLE;
        }
        long asked = (long) share * tank.totals[colour];
        copy.becomeLike(tank);
        for (int ticks = 0; ticks <= most; ticks++) {
            if (1000L * copy.amountInRing(colour, ring) >= asked) {
                return ticks;
            }
            copy.turn();
            copy.carry(colour);
        }
        return NONE;
    }

    public int meet(int one, int other, int near, int most) {
        if (!tank.hasMarker(one) || !tank.hasMarker(other)) {
            return NO_SUCH;
        }
        if (!within(near, 0, FULL_TURN / 2) || !within(most, 1, 1000)) {
            return BAD_VALUE;
        }
        copy.becomeLike(tank);
        for (int ticks = 0; ticks <= most; ticks++) {
            if (copy.markers[one].isNear(copy.markers[other], near)) {
                return ticks;
            }
            copy.turn();
            copy.moveMarkers();
        }
        return NONE;
    }

    public int leastEkman(int colour, int place, int ticks) {
        if (!isColour(colour)) {
            return NO_SUCH;
        }
        if (!within(place, 0, 11000) || !within(ticks, 1, 50)) {
            return BAD_VALUE;
        }
        if (tank.totals[colour] == 0) {
            return NOT_POSSIBLE;
        }
        // The mean place need not fall as EKMAN rises, so that no search by halves can be trusted.
        for (int ekman = 0; ekman <= GREATEST_SETTING[EKMAN]; ekman++) {
            if (placeWith(ekman, colour, ticks) <= place) {
                return ekman;
            }
        }
        return NONE;
    }

    private long placeWith(int ekman, int colour, int ticks) {
        copy.becomeLike(tank);
        copy.settings[EKMAN] = ekman;
        for (int done = 0; done < ticks; done++) {
            copy.turn();
            copy.carry(colour);
        }
        return copy.meanPlace(colour);
    }

    // ---- texts

    public int say(int character) {
        if (!within(character, FIRST_CHARACTER, LAST_CHARACTER)) {
            return BAD_VALUE;
        }
        if (pad.length >= PAD_LENGTH) {
            return TOO_MANY;
        }
        pad.append((char) character);
        return pad.length;
    }

    public int wipe() {
        int before = pad.length;
        pad.length = 0;
        return before;
    }

    public int fault() {
        return pad.firstFault();
    }

    public int carryOut() {
        if (pad.firstFault() != NONE) {
            return BAD_TEXT;
        }
        int done = 0;
        pad.at = 0;
        // A step takes at least two characters, so that the pad's length is above any number of steps.
        for (int step = 0; step < PAD_LENGTH; step++) {
            if (!pad.readStep() || !carriedOut()) {
                break;
            }
            done++;
            if (!pad.take(',')) {
                break;
            }
        }
        pad.length = 0;
        return done;
    }

    /** Carries out the step that was read last; false if it failed. */
    private boolean carriedOut() {
        if (pad.kind == 't') {
            return tick(pad.number) >= 0;
        }
        if (pad.kind == 'v') {
            // A previous velocity may be negative, but never as low as an error is.
            return spin(pad.ring, pad.number) > -GONE;
        }
        return pour(pad.colour, pad.layer, pad.ring, pad.sector, pad.number) >= 0;
    }

    // ---- saving

    public int save(int slot) {
        if (!within(slot, 0, SLOTS - 1)) {
            return BAD_VALUE;
        }
        slots[slot].becomeLike(tank);
        saved[slot] = true;
        return tank.time;
    }

    public int restore(int slot) {
        if (!within(slot, 0, SLOTS - 1)) {
            return BAD_VALUE;
        }
        if (!saved[slot]) {
            return NOT_POSSIBLE;
        }
        tank.becomeLike(slots[slot]);
        return tank.time;
    }

    // ---- tests of arguments

    private boolean isPlaceOfDye(int colour, int layer, int ring, int sector) {
        return isColour(colour) && within(layer, TOP, BOTTOM) && tank.hasRing(ring)
                && within(sector, 0, SECTORS - 1);
    }

    private static boolean isColour(int colour) {
        return within(colour, 0, COLOURS - 1);
    }

    private static boolean isSpeed(int velocity) {
        return within(velocity, -MOST_SPEED, MOST_SPEED);
    }

    private static boolean within(int value, int least, int greatest) {
        return value >= least && value <= greatest;
    }

    /** All that a slot keeps: always with room for the most rings and markers, so that it can become like any other. */
    private static final class Tank {
        int rings;
        int time;
        int markerCount;
        final int[] settings = new int[SETTINGS];
        final int[] momenta = new int[MOST_RINGS];
        final int[] angles = new int[MOST_RINGS];
        final int[] totals = new int[COLOURS];
        /** For each colour the cells, by layer, ring and cell: see rowOf. */
        final int[][] dyes = new int[COLOURS][LAYERS * MOST_RINGS * SECTORS];
        final Marker[] markers = new Marker[MARKERS];

        // Rows that are filled anew whenever they are used, and are no part of the state.
        private final int[] speeds = new int[MOST_RINGS];
        private final int[] pushes = new int[MOST_RINGS];
        private final int[] old = new int[LAYERS * MOST_RINGS * SECTORS];

        Tank() {
            for (int number = 0; number < MARKERS; number++) {
                markers[number] = new Marker();
            }
            startAgain(FIRST_RINGS);
        }

        void startAgain(int newRings) {
            rings = newRings;
            time = 0;
            markerCount = 0;
            System.arraycopy(FIRST_SETTING, 0, settings, 0, SETTINGS);
            Arrays.fill(momenta, 0);
            Arrays.fill(angles, 0);
            Arrays.fill(totals, 0);
            for (int colour = 0; colour < COLOURS; colour++) {
                Arrays.fill(dyes[colour], 0);
            }
        }

        void becomeLike(Tank other) {
            rings = other.rings;
            time = other.time;
            markerCount = other.markerCount;
            System.arraycopy(other.settings, 0, settings, 0, SETTINGS);
            System.arraycopy(other.momenta, 0, momenta, 0, MOST_RINGS);
            System.arraycopy(other.angles, 0, angles, 0, MOST_RINGS);
            System.arraycopy(other.totals, 0, totals, 0, COLOURS);
            for (int colour = 0; colour < COLOURS; colour++) {
                System.arraycopy(other.dyes[colour], 0, dyes[colour], 0, old.length);
            }
            for (int number = 0; number < markerCount; number++) {
                markers[number].becomeLike(other.markers[number]);
            }
        }

        boolean hasRing(int ring) {
            return ring >= 0 && ring < rings;
        }

        boolean hasMarker(int number) {
            return number >= 0 && number < markerCount;
        }

        int lastPlace() {
            return RING_WIDTH * rings - 1;
        }

        private static int weightOf(int ring) {
            return 2 * ring + 1;
        }

        int velocityOf(int ring) {
            return Math.floorDiv(momenta[ring], weightOf(ring));
        }

        void giveVelocity(int ring, int velocity) {
            momenta[ring] = velocity * weightOf(ring);
        }

        void giveVelocities(int from, int to) {
            // A tank has two rings or more, so that this divides by 1 at least.
            int last = Math.max(1, rings - 1);
            for (int ring = 0; ring < rings; ring++) {
                giveVelocity(ring, from + (to - from) * ring / last);
            }
        }

        int pushOf(int ring) {
            int push = settings[EKMAN] * (velocityOf(ring) - settings[FLOOR_SPEED]) / 100;
            return Math.max(-MOST_PUSH, Math.min(MOST_PUSH, push));
        }

        int allMomenta() {
            int sum = 0;
            for (int ring = 0; ring < rings; ring++) {
                sum += momenta[ring];
            }
            return sum;
        }

        int greatestShear() {
            int greatest = 0;
            for (int ring = 0; ring < rings - 1; ring++) {
                greatest = Math.max(greatest, Math.abs(velocityOf(ring) - velocityOf(ring + 1)));
            }
            return greatest;
        }

        boolean turnsWithFloor(int band) {
            for (int ring = 0; ring < rings; ring++) {
                if (Math.abs(velocityOf(ring) - settings[FLOOR_SPEED]) > band) {
                    return false;
                }
            }
            return true;
        }

        /** The index of the first of a ring's cells, in the row of any colour. */
        private static int rowOf(int layer, int ring) {
            return (layer * MOST_RINGS + ring) * SECTORS;
        }

        int cellIn(int layer, int ring, int sector) {
            return rowOf(layer, ring) + Math.floorMod(sector - angles[ring] / SECTOR_WIDTH, SECTORS);
        }

        int amountInRing(int colour, int ring) {
            return amountInRow(colour, TOP, ring) + amountInRow(colour, BOTTOM, ring);
        }

        int amountInTop(int colour) {
            int sum = 0;
            for (int ring = 0; ring < rings; ring++) {
                sum += amountInRow(colour, TOP, ring);
            }
            return sum;
        }

        private int amountInRow(int colour, int layer, int ring) {
            int[] cells = dyes[colour];
            int row = rowOf(layer, ring);
            int sum = 0;
            for (int cell = row; cell < row + SECTORS; cell++) {
                sum += cells[cell];
            }
            return sum;
        }

        // The cells of rings that the tank does not have are always empty, and can be looked at too.
        int cellsWith(int colour) {
            int[] cells = dyes[colour];
            int count = 0;
            for (int cell = 0; cell < cells.length; cell++) {
                if (cells[cell] > 0) {
                    count++;
                }
            }
            return count;
        }

        int greatestAmount(int colour) {
            int[] cells = dyes[colour];
            int greatest = 0;
            for (int cell = 0; cell < cells.length; cell++) {
                greatest = Math.max(greatest, cells[cell]);
            }
            return greatest;
        }

        long meanPlace(int colour) {
            if (totals[colour] == 0) {
                return NONE;
            }
            long sum = 0;
            for (int ring = 0; ring < rings; ring++) {
                sum += (long) ring * amountInRing(colour, ring);
            }
            return 1000 * sum / totals[colour];
        }

        long unevenness(int colour) {
            long all = totals[colour];
            // There are always cells, so that this divides by 1 at least.
            long count = Math.max(1, LAYERS * rings * SECTORS);
            long sum = 0;
            for (int layer = TOP; layer <= BOTTOM; layer++) {
                int row = rowOf(layer, 0);
                for (int cell = row; cell < row + rings * SECTORS; cell++) {
                    sum += Math.abs(dyes[colour][cell] * count - all);
                }
            }
            return sum / count;
        }

        void makeTick() {
            turn();
            for (int colour = 0; colour < COLOURS; colour++) {
                if (totals[colour] > 0) {
                    carry(colour);
                }
            }
            moveMarkers();
            time++;
        }

        /** Steps 1 and 2 of a tick; it leaves the new velocities and pushes for the other steps. */
        void turn() {
            changeMomenta();
            for (int ring = 0; ring < rings; ring++) {
                speeds[ring] = velocityOf(ring);
                pushes[ring] = pushOf(ring);
                angles[ring] = Math.floorMod(angles[ring] + speeds[ring], FULL_TURN);
            }
        }

        private void changeMomenta() {
            for (int ring = 0; ring < rings; ring++) {
                speeds[ring] = velocityOf(ring);
            }
            int last = rings - 1;
            for (int ring = 0; ring < last; ring++) {
                int moved = settings[SHEAR] * (speeds[ring] - speeds[ring + 1]) / 100;
                momenta[ring] -= moved;
                momenta[ring + 1] += moved;
            }
            momenta[last] += settings[WALL] * (settings[WALL_SPEED] - speeds[last]) / 100;
            for (int ring = 0; ring < rings; ring++) {
                momenta[ring] += settings[FLOOR] * (settings[FLOOR_SPEED] - speeds[ring]) * weightOf(ring) / 1000;
            }
        }

        /** Steps 3 and 4 of a tick for one colour, behind turn(); the colours do not touch one another. */
        void carry(int colour) {
            int[] cells = dyes[colour];
            System.arraycopy(cells, 0, old, 0, old.length);
            for (int ring = 0; ring < rings; ring++) {
                boolean above = pushes[ring] > 0;
                int share = Math.abs(pushes[ring]);
                moveRow(cells, BOTTOM, ring, above ? ring - 1 : ring + 1, share);
                moveRow(cells, TOP, ring, above ? ring + 1 : ring - 1, share);
            }
            if (settings[MIX] > 0) {
                mixLayers(cells);
            }
        }

        private void moveRow(int[] cells, int layer, int ring, int target, int share) {
            if (share == 0 || !hasRing(target)) {
                return;
            }
            int from = rowOf(layer, ring);
            int to = rowOf(layer, target);
            int other = Math.floorMod(angles[ring] / SECTOR_WIDTH - angles[target] / SECTOR_WIDTH, SECTORS);
            for (int cell = 0; cell < SECTORS; cell++) {
                int amount = old[from + cell];
                if (amount > 0) {
                    int moved = (int) ((long) amount * share / 1000);
                    cells[from + cell] -= moved;
                    cells[to + other] += moved;
                }
                other = other < SECTORS - 1 ? other + 1 : 0;
            }
        }

        private void mixLayers(int[] cells) {
            int bottom = rowOf(BOTTOM, 0);
            for (int top = 0; top < rings * SECTORS; top++) {
                long difference = cells[top] - cells[bottom];
                if (difference != 0) {
                    int moved = (int) (difference * settings[MIX] / 2000);
                    cells[top] -= moved;
                    cells[bottom] += moved;
                }
                bottom++;
            }
        }

        /** Step 5 of a tick, behind turn(). */
        void moveMarkers() {
            for (int number = 0; number < markerCount; number++) {
                Marker marker = markers[number];
                int ring = marker.ringNow();
                if (hasRing(ring)) {
                    marker.move(speeds[ring], pushes[ring], lastPlace());
                }
            }
        }
    }

    private static final class Marker {
        int place;
        int angle;
        int kept;
        int crossings;
        // The kept positions go round in these rows: "next" is the index for the coming one.
        private int next;
        private final int[] places = new int[KEPT];
        private final int[] angles = new int[KEPT];

        Marker() {
        }

        void putIn(int newPlace, int newAngle) {
            place = newPlace;
            angle = newAngle;
            kept = 0;
            crossings = 0;
            next = 0;
        }

        void becomeLike(Marker other) {
            place = other.place;
            angle = other.angle;
            kept = other.kept;
            crossings = other.crossings;
            next = other.next;
            System.arraycopy(other.places, 0, places, 0, KEPT);
            System.arraycopy(other.angles, 0, angles, 0, KEPT);
        }

        int ringNow() {
            return place / RING_WIDTH;
        }

        void move(int velocity, int push, int lastPlace) {
            int ringBefore = ringNow();
            angle = Math.floorMod(angle + velocity, FULL_TURN);
            place = Math.max(0, Math.min(lastPlace, place + push));
            if (ringNow() != ringBefore) {
                crossings++;
            }
            keepPosition();
        }

        private void keepPosition() {
            places[next] = place;
            angles[next] = angle;
            next = next < KEPT - 1 ? next + 1 : 0;
            kept = Math.min(KEPT, kept + 1);
        }

        int placeBack(int back) {
            return places[Math.floorMod(next - 1 - back, KEPT)];
        }

        int angleBack(int back) {
            return angles[Math.floorMod(next - 1 - back, KEPT)];
        }

        boolean isNear(Marker other, int near) {
            int difference = Math.abs(angle - other.angle);
            return ringNow() == other.ringNow() && Math.min(difference, FULL_TURN - difference) <= near;
        }
    }

    /** The pad, and the step on it that was read last. */
    private static final class Pad {
        int length;
        /** The index of the character that is read next. */
        int at;
        char kind;
        int colour;
        int layer;
        int ring;
        int sector;
        /** Ticks, a velocity with its sign, or an amount. */
        int number;
        private final char[] text = new char[PAD_LENGTH];

        Pad() {
        }

        void append(char character) {
            if (length >= 0 && length < PAD_LENGTH) {
                text[length] = character;
                length++;
            }
        }

        int firstFault() {
            at = 0;
            for (int step = 0; step < PAD_LENGTH; step++) {
                if (!readStep()) {
                    return at;
                }
                if (at == length) {
                    return NONE;
                }
                if (!take(',')) {
                    return at;
                }
            }
            return at;
        }

        /** Reads a step; false if it is not correct, and then "at" is the fault. */
        boolean readStep() {
            kind = character();
            if (take('t')) {
                number = readNumber(1, 999);
                return number >= 0;
            }
            if (take('v')) {
                return readRing() && take(':') && readVelocity();
            }
            return take('d') && readColour() && readLayer() && readRing() && take(':') && readSector()
                    && take('=') && readAmount();
        }

        private boolean readRing() {
            ring = readNumber(0, MOST_RINGS - 1);
            return ring >= 0;
        }

        private boolean readVelocity() {
            boolean negative = take('-');
            int size = readNumber(0, MOST_SPEED);
            number = negative ? -size : size;
            return size >= 0;
        }

        private boolean readColour() {
            colour = character() - 'a';
            return take('a') || take('b') || take('c');
        }

        private boolean readLayer() {
            layer = character() == '^' ? TOP : BOTTOM;
            return take('^') || take('_');
        }

        private boolean readSector() {
            sector = readNumber(0, SECTORS - 1);
            return sector >= 0;
        }

        private boolean readAmount() {
            number = readNumber(1, 999999);
            return number >= 0;
        }

        /** Reads all digits that the range (from 0 or 1 on) allows; -1 if there is none. */
        private int readNumber(int least, int greatest) {
            int value = digit();
            if (value < least) {
                return -1;
            }
            at++;
            while (value > 0 && at < length) {
                int digit = digit();
                if (digit < 0 || value * 10 + digit > greatest) {
                    break;
                }
                value = value * 10 + digit;
                at++;
            }
            return value;
        }

        private int digit() {
            char character = character();
            return character >= '0' && character <= '9' ? character - '0' : -1;
        }

        boolean take(char wanted) {
            if (character() != wanted) {
                return false;
            }
            at++;
            return true;
        }

        /** The character that is read next; the number 0, which no text has, behind the last. */
        private char character() {
            return at >= 0 && at < length && at < PAD_LENGTH ? text[at] : (char) 0;
        }
    }
}
