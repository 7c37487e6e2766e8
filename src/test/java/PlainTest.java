import java.util.ArrayList;
import java.util.Collections;
import java.util.HashMap;
import java.util.List;
import java.util.Map;
import java.util.Random;
import java.util.TreeSet;

/** Runs of calls against a second, plain writing of the document that keeps nothing by. */
public final class PlainTest {
    private static final int MOST_CALLS = 512;
    private static int wrong = 0;
    private static long asked = 0;

    public static void main(String[] args) {
        Checks.watch(900);
        for (int seed = 0; seed < 120 && wrong < 20; seed++) {
            new Run(seed, 0, 999, 8, 10).go();
            new Run(1000 + seed, 1, 30, 5, 50).go();
            new Run(2000 + seed, 1, 999, 8, 6).go();
            new Run(3000 + seed, 2, 12, 8, 4).go();
            new Run(4000 + seed, 3, 999, 8, 50).go();
        }
        for (int seed = 0; seed < 6 && wrong < 20; seed++) {
            new Run(5000 + seed, 1, 60, 8, 50).go();
        }
        System.out.println(asked + " answers, " + wrong + " of them not as due");
        if (wrong != 0) {
            System.exit(1);
        }
    }

    /** One run of at most 512 calls on one object and on its plain twin. */
    private static final class Run {
        final int name;
        final int kind;
        final int side;
        final int spots;
        final int reach;
        final Random random;
        final StarPlates fast = new StarPlates();
        final Plain plain = new Plain();
        final List<String> calls = new ArrayList<>();

        Run(int name, int kind, int side, int spots, int reach) {
            this.name = name;
            this.kind = kind;
            this.side = side;
            this.spots = spots;
            this.reach = reach;
            this.random = new Random(name);
        }

        void go() {
            if (random.nextInt(4) != 0) {
                reach(random.nextInt(reach + 1));
            }
            int plates = random.nextInt(4) == 0 ? 1 + random.nextInt(5) : 5;
            int[][] base = base();
            for (int p = 0; p < plates; p++) {
                plate(random.nextInt(1000));
                fill(p, base);
            }
            // at most 119 questions and 4 changes a round, and never a call past the last one
            while (calls.size() <= MOST_CALLS - 123) {
                queries(60 + random.nextInt(60));
                change(base);
            }
            queries(MOST_CALLS - calls.size());
        }

        int[][] base() {
            int[][] base = new int[spots][];
            for (int n = 0; n < spots; n++) {
                // multiples of 6 come back whole from every stretch
                int step = kind == 0 ? 6 : 1;
                base[n] = new int[] {
                    random.nextInt(side / step + 1) * step, random.nextInt(side / step + 1) * step};
            }
            return base;
        }

        /** Spots of a plate: at random (kind 1, 2), or the base turned, shrunk, shifted and spoilt. */
        void fill(int p, int[][] base) {
            if (kind == 1 || kind == 2) {
                int many = random.nextInt(spots + 1);
                for (int n = 0; n < many; n++) {
                    spot(p, random.nextInt(side + 1), random.nextInt(side + 1));
                }
                return;
            }
            int turn = random.nextInt(4);
            int stretch = 1 + random.nextInt(3);
            int room = 1 + 996 - 996 / stretch;
            int shiftX = random.nextInt(room);
            int shiftY = random.nextInt(room);
            int jitter = kind == 3 ? reach / 2 : 3;
            List<int[]> order = new ArrayList<>(List.of(base));
            if (random.nextBoolean()) {
                Collections.shuffle(order, random);
            }
            for (int[] at : order) {
                int x = turn == 0 ? at[0] : turn == 1 ? at[1] : turn == 2 ? 996 - at[0] : 996 - at[1];
                int y = turn == 0 ? at[1] : turn == 1 ? 996 - at[0] : turn == 2 ? 996 - at[1] : at[0];
                if (random.nextInt(8) != 0) {
                    spot(p, spoil(x / stretch + shiftX, jitter), spoil(y / stretch + shiftY, jitter));
                }
            }
        }

        int spoil(int place, int jitter) {
            int at = place;
            if (random.nextInt(3) == 0) {
                at += random.nextInt(2 * jitter + 1) - jitter;
            }
            at = Math.max(0, Math.min(999, at));
            if (random.nextInt(12) == 0) {
                int a = at / 100;
                int b = at / 10 % 10;
                int c = at % 10;
                at = random.nextBoolean() ? 100 * b + 10 * a + c : 100 * a + 10 * c + b;
            }
            return at;
        }

        void change(int[][] base) {
            for (int n = random.nextInt(4); n >= 0; n--) {
                switch (random.nextInt(6)) {
                    case 0 -> reach(random.nextInt(reach + 1));
                    case 1 -> wipe(index(5), index(8));
                    case 2 -> spot(index(5), index(side + 1), index(side + 1));
                    case 3 -> plate(index(1000));
                    case 4 -> reach(index(60));
                    default -> {
                        int[] at = base[random.nextInt(base.length)];
                        spot(index(5), at[0], at[1]);
                    }
                }
            }
        }

        /** Mostly below the bound, at times right at it or far outside. */
        int index(int bound) {
            int[] odd = {-1, bound, bound + 1, Integer.MIN_VALUE, Integer.MAX_VALUE, -bound};
            return random.nextInt(12) == 0 ? odd[random.nextInt(odd.length)] : random.nextInt(bound);
        }

        void queries(int many) {
            for (int n = 0; n < many; n++) {
                int a = index(5);
                int b = index(5);
                int i = index(8);
                int what;
                switch (random.nextInt(10)) {
                    case 0 -> {
                        what = index(6);
                        due("look(" + what + ")", fast.look(what), plain.look(what));
                    }
                    case 1 -> {
                        what = index(27);
                        due("of(" + a + ", " + what + ")", fast.of(a, what), plain.of(a, what));
                    }
                    case 2 -> {
                        what = index(6);
                        due("lay(" + a + ", " + b + ", " + what + ")", fast.lay(a, b, what), plain.lay(a, b, what));
                    }
                    case 3 -> due("pair(" + a + ", " + b + ", " + i + ")", fast.pair(a, b, i), plain.pair(a, b, i));
                    case 4 -> due("track(" + i + ", " + a + ")", fast.track(i, a), plain.track(i, a));
                    case 5 -> {
                        what = index(2);
                        due("place(" + i + ", " + a + ", " + what + ")", fast.place(i, a, what), plain.place(i, a, what));
                    }
                    case 6 -> {
                        what = index(4);
                        due("motion(" + i + ", " + what + ")", fast.motion(i, what), plain.motion(i, what));
                    }
                    case 7 -> {
                        what = index(4);
                        due("tell(" + i + ", " + what + ")", fast.tell(i, what), plain.tell(i, what));
                    }
                    case 8 -> {
                        what = index(2);
                        int year = index(2001);
                        due("foretell(" + i + ", " + year + ", " + what + ")", fast.foretell(i, year, what), plain.foretell(i, year, what));
                    }
                    default -> {
                        what = index(3);
                        due("slip(" + a + ", " + i + ", " + what + ")", fast.slip(a, i, what), plain.slip(a, i, what));
                    }
                }
            }
        }

        void plate(int year) {
            due("plate(" + year + ")", fast.plate(year), plain.plate(year));
        }

        void spot(int p, int x, int y) {
            due("spot(" + p + ", " + x + ", " + y + ")", fast.spot(p, x, y), plain.spot(p, x, y));
        }

        void wipe(int p, int i) {
            due("wipe(" + p + ", " + i + ")", fast.wipe(p, i) ? 1 : 0, plain.wipe(p, i) ? 1 : 0);
        }

        void reach(int r) {
            due("reach(" + r + ")", fast.reach(r) ? 1 : 0, plain.reach(r) ? 1 : 0);
        }

        void due(String call, int got, int want) {
            asked++;
            calls.add(call);
            if (got != want) {
                wrong++;
                System.out.println("run " + name + ", call " + calls.size() + ": " + call
                        + " answered " + got + ", due is " + want);
            }
        }
    }

    private record Spot(int x, int y) {
        Spot turned(int turn) {
            Spot at = this;
            for (int n = 0; n < turn; n++) {
                at = new Spot(-at.y, at.x);
            }
            return at;
        }

        Spot brought(int turn, int stretch, Spot shift) {
            Spot at = turned(turn);
            return new Spot(stretch * at.x + shift.x, stretch * at.y + shift.y);
        }

        int far(Spot other) {
            return Math.max(Math.abs(x - other.x), Math.abs(y - other.y));
        }
    }

    private record Fit(int turn, int stretch, Spot shift, int count, int sum, int[] choice) {
        Spot bring(Spot at) {
            return at.brought(turn, stretch, shift);
        }
    }

    /** The most pairs, then the least sum, of B's spots from j on, by what of A is taken. */
    private static final class Matching {
        final List<Spot> a;
        final List<Spot> b;
        final int reach;
        final Map<Integer, Integer> known = new HashMap<>();

        Matching(List<Spot> a, List<Spot> b, int reach) {
            this.a = a;
            this.b = b;
            this.reach = reach;
        }

        /** 1000 for each pair, less the sum of FAR. */
        int worth(int j, int taken) {
            if (j == b.size()) {
                return 0;
            }
            Integer seen = known.get(j * 256 + taken);
            if (seen != null) {
                return seen;
            }
            int best = worth(j + 1, taken);
            for (int i = 0; i < a.size(); i++) {
                if (may(i, j, taken)) {
                    best = Math.max(best, with(i, j, taken));
                }
            }
            known.put(j * 256 + taken, best);
            return best;
        }

        boolean may(int i, int j, int taken) {
            return (taken >> i & 1) == 0 && a.get(i).far(b.get(j)) <= reach;
        }

        int with(int i, int j, int taken) {
            return 1000 - a.get(i).far(b.get(j)) + worth(j + 1, taken | 1 << i);
        }

        int[] first() {
            int[] choice = new int[b.size()];
            int taken = 0;
            for (int j = 0; j < b.size(); j++) {
                choice[j] = -1;
                for (int i = 0; i < a.size() && choice[j] < 0; i++) {
                    if (may(i, j, taken) && with(i, j, taken) == worth(j, taken)) {
                        choice[j] = i;
                    }
                }
                taken |= choice[j] < 0 ? 0 : 1 << choice[j];
            }
            return choice;
        }
    }

    /** The document as it is written. Best lays alone are kept, by the places and the reach. */
    private static final class Plain {
        final List<Integer> years = new ArrayList<>();
        final List<List<Spot>> plates = new ArrayList<>();
        final Map<String, Fit> fits = new HashMap<>();
        int reach = 3;

        int plate(int year) {
            if (year < 0 || year > 999 || years.contains(year) || years.size() == 5) {
                return -1;
            }
            years.add(year);
            plates.add(new ArrayList<>());
            return years.size() - 1;
        }

        boolean isPlate(int p) {
            return p >= 0 && p < plates.size();
        }

        boolean isSpot(int p, int i) {
            return isPlate(p) && i >= 0 && i < plates.get(p).size();
        }

        int spot(int p, int x, int y) {
            if (!isPlate(p) || x < 0 || x > 999 || y < 0 || y > 999) {
                return -1;
            }
            List<Spot> spots = plates.get(p);
            if (spots.size() == 8 || spots.contains(new Spot(x, y))) {
                return -1;
            }
            spots.add(new Spot(x, y));
            return spots.size() - 1;
        }

        boolean wipe(int p, int i) {
            if (!isSpot(p, i)) {
                return false;
            }
            plates.get(p).remove(i);
            return true;
        }

        boolean reach(int r) {
            if (r < 0 || r > 50) {
                return false;
            }
            reach = r;
            return true;
        }

        int frame() {
            return years.isEmpty() ? -1 : years.indexOf(Collections.min(years));
        }

        int tracks() {
            return years.isEmpty() ? 0 : plates.get(frame()).size();
        }

        int look(int what) {
            int still = 0;
            int misses = 0;
            for (int i = 0; i < tracks(); i++) {
                still += tell(i, 1) == 1 ? 1 : 0;
                misses += plates.size() - tell(i, 2);
            }
            int[] answers = {plates.size(), reach, frame(), tracks(), still, misses};
            return what >= 0 && what < 6 ? answers[what] : -1;
        }

        int of(int p, int what) {
            if (!isPlate(p)) {
                return -1;
            }
            if (what == 0) {
                return years.get(p);
            }
            if (what == 1) {
                return plates.get(p).size();
            }
            for (int i = 0; i < plates.get(p).size(); i++) {
                if (what == 10 + 2 * i) {
                    return plates.get(p).get(i).x;
                }
                if (what == 11 + 2 * i) {
                    return plates.get(p).get(i).y;
                }
            }
            return -1;
        }

        Fit fit(int a, int b) {
            if (!isPlate(a) || !isPlate(b) || a == b || plates.get(a).isEmpty() || plates.get(b).isEmpty()) {
                return null;
            }
            return fits.computeIfAbsent(plates.get(a) + "|" + plates.get(b) + "|" + reach,
                    key -> bestFit(plates.get(a), plates.get(b)));
        }

        Fit bestFit(List<Spot> a, List<Spot> b) {
            Fit best = null;
            for (int turn = 0; turn < 4; turn++) {
                for (int stretch = 1; stretch <= 3; stretch++) {
                    for (Spot shift : shifts(a, b, turn, stretch)) {
                        Fit fit = fitBy(a, b, turn, stretch, shift);
                        if (best == null || fit.count > best.count || fit.count == best.count && fit.sum < best.sum) {
                            best = fit;
                        }
                    }
                }
            }
            return best;
        }

        TreeSet<Spot> shifts(List<Spot> a, List<Spot> b, int turn, int stretch) {
            TreeSet<Spot> shifts = new TreeSet<>((s, t) -> s.x != t.x ? Integer.compare(s.x, t.x) : Integer.compare(s.y, t.y));
            for (Spot on : a) {
                for (Spot of : b) {
                    Spot from = of.brought(turn, stretch, new Spot(0, 0));
                    shifts.add(new Spot(on.x - from.x, on.y - from.y));
                }
            }
            return shifts;
        }

        Fit fitBy(List<Spot> a, List<Spot> b, int turn, int stretch, Spot shift) {
            List<Spot> brought = new ArrayList<>();
            for (Spot of : b) {
                brought.add(of.brought(turn, stretch, shift));
            }
            int[] choice = new Matching(a, brought, reach).first();
            int count = 0;
            int sum = 0;
            for (int j = 0; j < choice.length; j++) {
                if (choice[j] >= 0) {
                    count++;
                    sum += a.get(choice[j]).far(brought.get(j));
                }
            }
            return new Fit(turn, stretch, shift, count, sum, choice);
        }

        int lay(int a, int b, int what) {
            Fit fit = fit(a, b);
            if (fit == null || what < 0 || what > 5) {
                return -10000;
            }
            return new int[] {fit.count, fit.sum, fit.turn, fit.stretch, fit.shift.x, fit.shift.y}[what];
        }

        int pair(int a, int b, int j) {
            Fit fit = fit(a, b);
            return fit == null || j < 0 || j >= fit.choice.length ? -1 : fit.choice[j];
        }

        int track(int i, int p) {
            if (i < 0 || i >= tracks() || !isPlate(p)) {
                return -1;
            }
            if (p == frame()) {
                return i;
            }
            for (int j = 0; j < plates.get(p).size(); j++) {
                if (pair(frame(), p, j) == i) {
                    return j;
                }
            }
            return -1;
        }

        Spot at(int i, int p) {
            int j = track(i, p);
            if (j < 0) {
                return null;
            }
            Spot at = plates.get(p).get(j);
            return p == frame() ? at : fit(frame(), p).bring(at);
        }

        int place(int i, int p, int what) {
            Spot at = at(i, p);
            return at == null || what < 0 || what > 1 ? -10000 : what == 0 ? at.x : at.y;
        }

        /** The plates with a spot of the track, by their years. */
        List<Integer> found(int i) {
            List<Integer> found = new ArrayList<>();
            for (int p = 0; p < plates.size(); p++) {
                if (track(i, p) >= 0) {
                    found.add(p);
                }
            }
            found.sort((p, q) -> Integer.compare(years.get(p), years.get(q)));
            return found;
        }

        int motion(int i, int what) {
            List<Integer> found = found(i);
            if (found.size() < 2 || what < 0 || what > 3) {
                return -10000;
            }
            int first = found.get(0);
            int last = found.get(found.size() - 1);
            int above = what < 2 ? at(i, last).x - at(i, first).x : at(i, last).y - at(i, first).y;
            int below = years.get(last) - years.get(first);
            for (int part = below; part > 1; part--) {
                if (above % part == 0 && below % part == 0) {
                    above /= part;
                    below /= part;
                }
            }
            return what % 2 == 0 ? above : below;
        }

        boolean sameMotion(int i, int k) {
            for (int what = 0; what < 4; what++) {
                if (motion(i, what) != motion(k, what)) {
                    return false;
                }
            }
            return true;
        }

        boolean within(long start, int above, int below, int passed, int at) {
            return Math.abs(below * (at - start) - (long) above * passed) <= (long) reach * below;
        }

        boolean steady(int i) {
            int first = found(i).get(0);
            for (int p : found(i)) {
                int passed = years.get(p) - years.get(first);
                if (!within(at(i, first).x, motion(i, 0), motion(i, 1), passed, at(i, p).x)
                        || !within(at(i, first).y, motion(i, 2), motion(i, 3), passed, at(i, p).y)) {
                    return false;
                }
            }
            return true;
        }

        int tell(int i, int what) {
            List<Integer> found = found(i);
            if (found.isEmpty() || what < 0 || what > 3) {
                return -1;
            }
            if (what == 2) {
                return found.size();
            }
            if (found.size() < 2) {
                return -1;
            }
            boolean still = motion(i, 0) == 0 && motion(i, 2) == 0;
            if (what == 0) {
                return steady(i) ? 1 : 0;
            }
            if (what == 1) {
                return still ? 1 : 0;
            }
            for (int k = 0; k < tracks() && !still; k++) {
                if (k != i && sameMotion(i, k)) {
                    return k;
                }
            }
            return -1;
        }

        int foretell(int i, int year, int what) {
            List<Integer> found = found(i);
            if (found.isEmpty() || year < 0 || year > 2000 || what < 0 || what > 1) {
                return -100000;
            }
            int first = found.get(0);
            int start = what == 0 ? at(i, first).x : at(i, first).y;
            if (found.size() < 2) {
                return start;
            }
            long above = motion(i, 2 * what);
            long below = motion(i, 2 * what + 1);
            long top = start * below + above * (year - years.get(first));
            int guess = (int) Math.floor((double) top / below);
            int near = guess - 2;
            for (int n = guess - 1; n <= guess + 2; n++) {
                if (Math.abs(n * below - top) <= Math.abs(near * below - top)) {
                    near = n;
                }
            }
            return near;
        }

        int slip(int p, int j, int what) {
            if (!isSpot(p, j) || p == frame() || what < 0 || what > 2) {
                return -1;
            }
            Fit fit = fit(frame(), p);
            if (fit == null || fit.choice[j] >= 0) {
                return -1;
            }
            Spot at = plates.get(p).get(j);
            for (int axis = 0; axis < 2; axis++) {
                for (int digit = 0; digit < 2; digit++) {
                    Spot other = axis == 0 ? new Spot(swapped(at.x, digit), at.y) : new Spot(at.x, swapped(at.y, digit));
                    for (int i = 0; i < tracks(); i++) {
                        if (track(i, p) < 0 && fit.bring(other).far(plates.get(frame()).get(i)) <= reach) {
                            return new int[] {axis + 1, digit, i}[what];
                        }
                    }
                }
            }
            return -1;
        }

        int swapped(int place, int digit) {
            char[] digits = String.format("%03d", place).toCharArray();
            char first = digits[digit];
            digits[digit] = digits[digit + 1];
            digits[digit + 1] = first;
            return Integer.parseInt(new String(digits));
        }
    }
}
