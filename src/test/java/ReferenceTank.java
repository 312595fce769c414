import java.util.ArrayList;
import java.util.List;
import java.util.regex.Matcher;
import java.util.regex.Pattern;

/**
 * The document told once more, as slowly and plainly as can be, for comparing: every number is a long, dye is held by
 * ring, layer, cell and colour, cells are looked for by their sectors, a forecast makes whole ticks in a whole copy,
 * and texts are judged by a regular expression.
 */
final class ReferenceTank {
    static final long NO_SUCH = -1, BAD_VALUE = -2, BAD_TEXT = -3, TOO_MANY = -4, NOT_POSSIBLE = -5, NONE = -6;
    static final long GONE = 1000000000;
    static final int TOP = 0, BOTTOM = 1;

    static final class Marker {
        long place, angle, crossings;
        List<long[]> path = new ArrayList<>();

        Marker copy() {
            Marker copy = new Marker();
            copy.place = place;
            copy.angle = angle;
            copy.crossings = crossings;
            copy.path = new ArrayList<>(path);
            return copy;
        }
    }

    static final class World {
        int n = 6;
        long time = 0;
        long[] setting = {20, 10, 0, 5, 0, 50, 20};
        long[] momentum = new long[12];
        long[] angle = new long[12];
        long[][][][] dye = new long[12][2][24][3];
        List<Marker> markers = new ArrayList<>();

        World copy() {
            World copy = new World();
            copy.n = n;
            copy.time = time;
            copy.setting = setting.clone();
            copy.momentum = momentum.clone();
            copy.angle = angle.clone();
            copy.dye = copyOf(dye);
            for (Marker marker : markers) {
                copy.markers.add(marker.copy());
            }
            return copy;
        }

        static long[][][][] copyOf(long[][][][] dye) {
            long[][][][] copy = new long[12][2][24][];
            for (int ring = 0; ring < 12; ring++) {
                for (int layer = 0; layer < 2; layer++) {
                    for (int cell = 0; cell < 24; cell++) {
                        copy[ring][layer][cell] = dye[ring][layer][cell].clone();
                    }
                }
            }
            return copy;
        }

        long weight(int ring) {
            return 2L * ring + 1;
        }

        long velocity(int ring) {
            long quotient = momentum[ring] / weight(ring);
            return quotient * weight(ring) > momentum[ring] ? quotient - 1 : quotient;
        }

        long push(int ring) {
            long push = setting[5] * (velocity(ring) - setting[4]) / 100;
            return push > 500 ? 500 : push < -500 ? -500 : push;
        }

        int sector(int ring, int cell) {
            return (int) ((cell + angle[ring] / 150) % 24);
        }

        int cell(int ring, int sector) {
            for (int cell = 0; cell < 24; cell++) {
                if (sector(ring, cell) == sector) {
                    return cell;
                }
            }
            throw new IllegalStateException();
        }

        void tick() {
            long[] v = new long[n];
            for (int r = 0; r < n; r++) {
                v[r] = velocity(r);
            }
            for (int r = 0; r < n; r++) {
                if (r < n - 1) {
                    momentum[r] -= setting[0] * (v[r] - v[r + 1]) / 100;
                    momentum[r + 1] += setting[0] * (v[r] - v[r + 1]) / 100;
                }
                if (r == n - 1) {
                    momentum[r] += setting[1] * (setting[2] - v[r]) / 100;
                }
                momentum[r] += setting[3] * (setting[4] - v[r]) * weight(r) / 1000;
            }
            for (int r = 0; r < n; r++) {
                angle[r] = ((angle[r] + velocity(r)) % 3600 + 3600) % 3600;
            }
            pushDye();
            mixDye();
            for (Marker marker : markers) {
                int r = (int) (marker.place / 1000);
                marker.angle = ((marker.angle + velocity(r)) % 3600 + 3600) % 3600;
                marker.place = Math.max(0, Math.min(1000L * n - 1, marker.place + push(r)));
                if (marker.place / 1000 != r) {
                    marker.crossings++;
                }
                marker.path.add(0, new long[] {marker.place, marker.angle});
                if (marker.path.size() > 50) {
                    marker.path.remove(50);
                }
            }
            time++;
        }

        void pushDye() {
            long[][][][] before = copyOf(dye);
            for (int r = 0; r < n; r++) {
                long x = push(r);
                for (int layer = 0; layer < 2; layer++) {
                    int target = r + (x > 0 ? 1 : -1) * (layer == TOP ? 1 : -1);
                    if (x == 0 || target < 0 || target >= n) {
                        continue;
                    }
                    for (int c = 0; c < 24; c++) {
                        int other = cell(target, sector(r, c));
                        for (int colour = 0; colour < 3; colour++) {
                            long moved = before[r][layer][c][colour] * Math.abs(x) / 1000;
                            dye[r][layer][c][colour] -= moved;
                            dye[target][layer][other][colour] += moved;
                        }
                    }
                }
            }
        }

        void mixDye() {
            for (int r = 0; r < n; r++) {
                for (int c = 0; c < 24; c++) {
                    for (int colour = 0; colour < 3; colour++) {
                        long moved = (dye[r][TOP][c][colour] - dye[r][BOTTOM][c][colour]) * setting[6] / 2000;
                        dye[r][TOP][c][colour] -= moved;
                        dye[r][BOTTOM][c][colour] += moved;
                    }
                }
            }
        }

        long sum(int colour, int ringOrAll, int layerOrBoth) {
            long sum = 0;
            for (int r = 0; r < n; r++) {
                for (int layer = 0; layer < 2; layer++) {
                    for (int c = 0; c < 24; c++) {
                        if ((ringOrAll < 0 || ringOrAll == r) && (layerOrBoth < 0 || layerOrBoth == layer)) {
                            sum += dye[r][layer][c][colour];
                        }
                    }
                }
            }
            return sum;
        }

        long meanPlace(int colour) {
            long all = sum(colour, -1, -1), sum = 0;
            for (int r = 0; r < n; r++) {
                sum += r * sum(colour, r, -1);
            }
            return all == 0 ? NONE : Math.floorDiv(1000 * sum, all);
        }
    }

    private static final int[] LEAST = {0, 0, -1500, 0, -1500, 0, 0};
    private static final int[] GREATEST = {100, 100, 1500, 100, 1500, 200, 500};

    private World world = new World();
    private final World[] slots = new World[2];
    private String pad = "";

    private static boolean out(long value, long least, long greatest) {
        return value < least || value > greatest;
    }

    long setUp(int rings) {
        if (out(rings, 2, 12)) return BAD_VALUE;
        long before = world.n;
        world = new World();
        world.n = rings;
        return before;
    }

    long set(int setting, int value) {
        if (out(setting, 0, 6)) return BAD_VALUE - GONE;
        if (out(value, LEAST[setting], GREATEST[setting])) return BAD_VALUE - GONE;
        long before = world.setting[setting];
        world.setting[setting] = value;
        return before;
    }

    long spin(int ring, int velocity) {
        if (out(ring, 0, world.n - 1)) return NO_SUCH - GONE;
        if (out(velocity, -1500, 1500)) return BAD_VALUE - GONE;
        long before = world.velocity(ring);
        world.momentum[ring] = velocity * world.weight(ring);
        return before;
    }

    long spinAll(int from, int to) {
        if (out(from, -1500, 1500) || out(to, -1500, 1500)) return BAD_VALUE - GONE;
        for (int r = 0; r < world.n; r++) {
            world.momentum[r] = (from + (to - from) * r / (world.n - 1)) * world.weight(r);
        }
        return state(3);
    }

    long pour(int colour, int layer, int ring, int sector, int amount) {
        if (dye(colour, layer, ring, sector) < 0) return NO_SUCH;
        if (out(amount, 1, 1000000)) return BAD_VALUE;
        if (world.sum(colour, -1, -1) + amount > 10000000) return TOO_MANY;
        world.dye[ring][layer][world.cell(ring, sector)][colour] += amount;
        return world.sum(colour, -1, -1);
    }

    long tick(int ticks) {
        if (out(ticks, 1, 1000)) return BAD_VALUE;
        if (world.time + ticks > 100000) return NOT_POSSIBLE;
        for (int done = 0; done < ticks; done++) {
            world.tick();
        }
        return world.time;
    }

    long ring(int ring, int what) {
        if (out(ring, 0, world.n - 1)) return NO_SUCH - GONE;
        if (out(what, 0, 6)) return BAD_VALUE - GONE;
        if (what == 0) return world.velocity(ring);
        if (what == 1) return world.momentum[ring];
        if (what == 2) return world.angle[ring];
        if (what == 3) return world.push(ring);
        return world.sum(what - 4, ring, -1);
    }

    long dye(int colour, int layer, int ring, int sector) {
        if (out(colour, 0, 2) || out(layer, 0, 1) || out(ring, 0, world.n - 1) || out(sector, 0, 23)) return NO_SUCH;
        return world.dye[ring][layer][world.cell(ring, sector)][colour];
    }

    long colour(int colour, int what) {
        if (out(colour, 0, 2)) return NO_SUCH;
        if (out(what, 0, 5)) return BAD_VALUE;
        long all = world.sum(colour, -1, -1);
        if (what == 0) return all;
        if (what == 1) return world.sum(colour, -1, TOP);
        if (what == 4) return world.meanPlace(colour);
        long cells = 0, greatest = 0, uneven = 0, count = 2L * 24 * world.n;
        for (int r = 0; r < world.n; r++) {
            for (int layer = 0; layer < 2; layer++) {
                for (int c = 0; c < 24; c++) {
                    long amount = world.dye[r][layer][c][colour];
                    if (amount > 0) cells++;
                    greatest = Math.max(greatest, amount);
                    uneven += Math.abs(amount * count - all);
                }
            }
        }
        return what == 2 ? cells : what == 3 ? greatest : uneven / count;
    }

    long state(int what) {
        if (out(what, 0, 12)) return BAD_VALUE - GONE;
        if (what == 0) return world.time;
        if (what == 1) return world.n;
        if (what == 2) return world.markers.size();
        if (what == 5) return pad.length();
        if (what >= 6) return world.setting[what - 6];
        long momenta = 0, difference = 0;
        for (int r = 0; r < world.n; r++) {
            momenta += world.momentum[r];
            if (r > 0) difference = Math.max(difference, Math.abs(world.velocity(r) - world.velocity(r - 1)));
        }
        return what == 3 ? momenta : difference;
    }

    long marker(int place, int angle) {
        if (out(place, 0, 1000L * world.n - 1) || out(angle, 0, 3599)) return BAD_VALUE;
        if (world.markers.size() == 6) return TOO_MANY;
        Marker marker = new Marker();
        marker.place = place;
        marker.angle = angle;
        world.markers.add(marker);
        return world.markers.size() - 1;
    }

    long where(int marker, int what) {
        if (out(marker, 0, world.markers.size() - 1)) return NO_SUCH;
        if (out(what, 0, 4)) return BAD_VALUE;
        Marker m = world.markers.get(marker);
        return new long[] {m.place, m.angle, m.place / 1000, m.path.size(), m.crossings}[what];
    }

    long path(int marker, int back, int what) {
        if (out(marker, 0, world.markers.size() - 1)) return NO_SUCH;
        if (out(what, 0, 1)) return BAD_VALUE;
        List<long[]> path = world.markers.get(marker).path;
        return out(back, 0, path.size() - 1) ? NONE : path.get(back)[what];
    }

    long settles(int band, int most) {
        if (out(band, 0, 1000) || out(most, 1, 1000)) return BAD_VALUE;
        World copy = world.copy();
        for (int ticks = 0; ticks <= most; ticks++) {
            boolean all = true;
            for (int r = 0; r < copy.n; r++) {
                all &= Math.abs(copy.velocity(r) - copy.setting[4]) <= band;
            }
            if (all) return ticks;
            copy.tick();
        }
        return NONE;
    }

    long arrives(int colour, int ring, int share, int most) {
        if (out(colour, 0, 2) || out(ring, 0, world.n - 1)) return NO_SUCH;
        if (out(share, 1, 1000) || out(most, 1, 500)) return BAD_VALUE;
        if (world.sum(colour, -1, -1) == 0) return NOT_POSSIBLE;
        World copy = world.copy();
        for (int ticks = 0; ticks <= most; ticks++) {
            if (1000 * copy.sum(colour, ring, -1) >= share * copy.sum(colour, -1, -1)) return ticks;
            copy.tick();
        }
        return NONE;
    }

    long meet(int one, int other, int near, int most) {
        if (out(one, 0, world.markers.size() - 1) || out(other, 0, world.markers.size() - 1)) return NO_SUCH;
        if (out(near, 0, 1800) || out(most, 1, 1000)) return BAD_VALUE;
        World copy = world.copy();
        for (int ticks = 0; ticks <= most; ticks++) {
            Marker a = copy.markers.get(one), b = copy.markers.get(other);
            long oneWay = (a.angle - b.angle + 3600) % 3600, otherWay = (b.angle - a.angle + 3600) % 3600;
            if (a.place / 1000 == b.place / 1000 && Math.min(oneWay, otherWay) <= near) return ticks;
            copy.tick();
        }
        return NONE;
    }

    long leastEkman(int colour, int place, int ticks) {
        if (out(colour, 0, 2)) return NO_SUCH;
        if (out(place, 0, 11000) || out(ticks, 1, 50)) return BAD_VALUE;
        if (world.sum(colour, -1, -1) == 0) return NOT_POSSIBLE;
        for (int ekman = 0; ekman <= 200; ekman++) {
            World copy = world.copy();
            copy.setting[5] = ekman;
            for (int done = 0; done < ticks; done++) {
                copy.tick();
            }
            if (copy.meanPlace(colour) <= place) return ekman;
        }
        return NONE;
    }

    long say(int character) {
        if (out(character, 33, 126)) return BAD_VALUE;
        if (pad.length() == 60) return TOO_MANY;
        pad += (char) character;
        return pad.length();
    }

    long wipe() {
        long before = pad.length();
        pad = "";
        return before;
    }

    private static final String STEP = "(?:t[1-9][0-9]{0,2}"
            + "|v(?:[0-9]|1[01]):-?(?:0|[1-9][0-9]{0,2}|1[0-4][0-9]{2}|1500)"
            + "|d[abc][\\^_](?:[0-9]|1[01]):(?:[0-9]|1[0-9]|2[0-3])=[1-9][0-9]{0,5})";
    private static final Pattern PROGRAM = Pattern.compile(STEP + "(?:," + STEP + ")*");

    long fault() {
        if (PROGRAM.matcher(pad).matches()) return NONE;
        for (int length = 1; length <= pad.length(); length++) {
            Matcher matcher = PROGRAM.matcher(pad.substring(0, length));
            if (!matcher.matches() && !matcher.hitEnd()) return length - 1;
        }
        return pad.length();
    }

    long carryOut() {
        if (fault() != NONE) return BAD_TEXT;
        String[] steps = pad.split(",");
        pad = "";
        for (int done = 0; done < steps.length; done++) {
            if (!carriedOut(steps[done])) return done;
        }
        return steps.length;
    }

    private boolean carriedOut(String step) {
        String[] parts = step.substring(1).split("[:=]");
        if (step.charAt(0) == 't') {
            return tick(Integer.parseInt(parts[0])) >= 0;
        }
        if (step.charAt(0) == 'v') {
            return spin(Integer.parseInt(parts[0]), Integer.parseInt(parts[1])) >= -GONE;
        }
        return pour(parts[0].charAt(0) - 'a', parts[0].charAt(1) == '^' ? TOP : BOTTOM,
                Integer.parseInt(parts[0].substring(2)), Integer.parseInt(parts[1]),
                Integer.parseInt(parts[2])) >= 0;
    }

    long save(int slot) {
        if (out(slot, 0, 1)) return BAD_VALUE;
        slots[slot] = world.copy();
        return world.time;
    }

    long restore(int slot) {
        if (out(slot, 0, 1)) return BAD_VALUE;
        if (slots[slot] == null) return NOT_POSSIBLE;
        world = slots[slot].copy();
        return world.time;
    }
}
