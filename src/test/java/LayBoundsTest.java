/** Promises 8 and 9, and what 'Terms' says of lays and pairs: a test for each boundary. */
public final class LayBoundsTest extends Checks {
    /** Eight spots far apart and uneven, so that there is one good lay alone. */
    private static final int[] EIGHT =
            {100, 100, 300, 120, 550, 90, 820, 300, 480, 420, 130, 560, 700, 700, 350, 880};
    private static final int[][] ORDERS = {{0, 1, 2}, {0, 2, 1}, {1, 0, 2}, {1, 2, 0}, {2, 0, 1}, {2, 1, 0}};

    public static void main(String[] args) {
        run(LayBoundsTest::layRefused, LayBoundsTest::layNone, LayBoundsTest::turns, LayBoundsTest::stretches,
                LayBoundsTest::shifts, LayBoundsTest::rightUpon, LayBoundsTest::mostAndLeast,
                LayBoundsTest::leastOfAlike, LayBoundsTest::far, LayBoundsTest::reachOfPairs,
                LayBoundsTest::oneAtMost, LayBoundsTest::asMany, LayBoundsTest::firstOfAlike,
                LayBoundsTest::firstOfMany, LayBoundsTest::full, LayBoundsTest::pairRefused, LayBoundsTest::changes);
    }

    private static void layRefused() {
        sentence("8: there is none if a is b", () -> {
            for (int p = 0; p < 3; p++) {
                dueNoLay("plate " + p + " on itself", sky(), p, p);
            }
        });
        sentence("8: none such: a below 0", () -> {
            dueNoLay("-1", sky(), -1, 0);
            dueNoLay("-1 and the fifth", sky(), -1, 5);
            dueNoLay("the least number", sky(), Integer.MIN_VALUE, 1);
        });
        sentence("8: none such: b below 0", () -> {
            dueNoLay("-1", sky(), 1, -1);
            dueNoLay("-5", sky(), 1, -5);
            dueNoLay("the least number", sky(), 1, Integer.MIN_VALUE);
        });
        sentence("8: none such: a past the last", () -> {
            for (int a : new int[] {3, 4, 5, 858993460, Integer.MAX_VALUE}) {
                dueNoLay("a " + a, sky(), a, 0);
            }
        });
        sentence("8: none such: b past the last", () -> {
            for (int b : new int[] {3, 4, 5, 6, Integer.MAX_VALUE}) {
                dueNoLay("b " + b, sky(), 0, b);
            }
        });
        sentence("8: none such: both are one that is not there", () -> {
            dueNoLay("-1", sky(), -1, -1);
            dueNoLay("3", sky(), 3, 3);
        });
        sentence("8: another what", () -> {
            for (int what : new int[] {-1, 6, 7, 10, Integer.MIN_VALUE, Integer.MAX_VALUE}) {
                due("lay(1, 0, " + what + ")", sky().lay(1, 0, what), NO_PLACE);
            }
        });
    }

    private static void dueNoLay(String what, StarPlates s, int a, int b) {
        for (int n = 0; n < 6; n++) {
            due(what + ": lay(" + a + ", " + b + ", " + n + ")", s.lay(a, b, n), NO_PLACE);
        }
    }

    private static void layNone() {
        sentence("Terms: there is none if A has no SPOTS", () -> dueNoLay("A", oneWithSpots(), 1, 0));
        sentence("Terms: there is none if B has no SPOTS", () -> dueNoLay("B", oneWithSpots(), 0, 1));
        sentence("Terms: there is none if neither has SPOTS", () -> {
            StarPlates s = new StarPlates();
            put(s, 1);
            put(s, 2);
            dueNoLay("neither", s, 0, 1);
        });
        sentence("Terms: there is none any more if the last SPOT of A or B goes", () -> {
            StarPlates s = oneWithSpots();
            s.spot(1, 7, 7);
            due("one pair", s.lay(0, 1, 0), 1);
            due("one pair the other way", s.lay(1, 0, 0), 1);
            s.wipe(1, 0);
            dueNoLay("B", s, 0, 1);
            dueNoLay("A", s, 1, 0);
        });
        sentence("Terms: with one SPOT on each there is one", () -> {
            StarPlates s = new StarPlates();
            put(s, 1, 0, 999);
            put(s, 2, 999, 0);
            dueLay("one on one", s, 0, 1, 1, 0, 0, 1, -999, 999);
            dueLay("one on one the other way", s, 1, 0, 1, 0, 0, 1, 999, -999);
        });
    }

    private static StarPlates oneWithSpots() {
        StarPlates s = new StarPlates();
        put(s, 1, 10, 20, 30, 60);
        put(s, 2);
        return s;
    }

    /** B has spots at offsets 0, 0 and 10, 0 and 0, 30; A has them turned and stretched. */
    private static StarPlates turned(int turn, int stretch) {
        int[][] ways = {{1, 0, 0, 1}, {0, -1, 1, 0}, {-1, 0, 0, -1}, {0, 1, -1, 0}};
        int[] way = ways[turn];
        int[] lower = new int[6];
        int[] upper = {500, 500, 510, 500, 500, 530};
        for (int n = 0; n < 6; n += 2) {
            int dx = upper[n] - 500;
            int dy = upper[n + 1] - 500;
            lower[n] = 400 + stretch * (way[0] * dx + way[1] * dy);
            lower[n + 1] = 400 + stretch * (way[2] * dx + way[3] * dy);
        }
        StarPlates s = new StarPlates();
        s.reach(0);
        put(s, 1, lower);
        put(s, 2, upper);
        return s;
    }

    private static void turns() {
        sentence("Terms: a TURN of 0: x, y", () -> {
            dueLay("1", turned(0, 1), 0, 1, 3, 0, 0, 1, -100, -100);
            dueLay("2", turned(0, 2), 0, 1, 3, 0, 0, 2, -600, -600);
        });
        sentence("Terms: a TURN of 1: -y, x", () -> {
            dueLay("1", turned(1, 1), 0, 1, 3, 0, 1, 1, 900, -100);
            dueLay("2", turned(1, 2), 0, 1, 3, 0, 1, 2, 1400, -600);
        });
        sentence("Terms: a TURN of 2: -x, -y", () -> {
            dueLay("1", turned(2, 1), 0, 1, 3, 0, 2, 1, 900, 900);
            dueLay("2", turned(2, 2), 0, 1, 3, 0, 2, 2, 1400, 1400);
        });
        sentence("Terms: a TURN of 3, the last: y, -x", () -> {
            dueLay("1", turned(3, 1), 0, 1, 3, 0, 3, 1, -100, 900);
            dueLay("3", turned(3, 3), 0, 1, 3, 0, 3, 3, -1100, 1900);
        });
        sentence("Terms: a TURN mirrors nothing", () -> {
            StarPlates s = new StarPlates();
            s.reach(0);
            put(s, 1, 400, 400, 410, 400, 400, 430);
            put(s, 2, 500, 500, 490, 500, 500, 530);
            due("two of three", s.lay(0, 1, 0), 2);
        });
    }

    private static void stretches() {
        sentence("Terms: a STRETCH of 1 at least: B is never made less", () -> {
            StarPlates s = new StarPlates();
            s.reach(0);
            put(s, 1, 400, 400, 410, 400, 400, 430);
            put(s, 2, 500, 500, 520, 500, 500, 560);
            dueLay("half", s, 0, 1, 1, 0, 0, 1, -120, -100);
        });
        sentence("Terms: a STRETCH of 3 can be", () -> dueLay("3", turned(0, 3), 0, 1, 3, 0, 0, 3, -1100, -1100));
        sentence("Terms: a STRETCH of 3 at most: 4 can't be", () -> {
            StarPlates s = new StarPlates();
            s.reach(0);
            put(s, 1, 400, 400, 440, 400, 400, 520);
            put(s, 2, 500, 500, 510, 500, 500, 530);
            dueLay("4", s, 0, 1, 1, 0, 0, 1, -110, -100);
        });
    }

    /** Three in a row, so that what is right upon the edge can be laid by the farthest shift. */
    private static StarPlates row(int[] lower, int[] upper) {
        StarPlates s = new StarPlates();
        s.reach(0);
        put(s, 1, lower);
        put(s, 2, upper);
        return s;
    }

    private static void shifts() {
        sentence("Terms: the least shift that can be in x", () -> {
            StarPlates s = row(new int[] {0, 0, 0, 3, 0, 9}, new int[] {999, 0, 999, 1, 999, 3});
            dueLay("-2997", s, 0, 1, 3, 0, 0, 3, -2997, 0);
            duePairs("-2997", s, 0, 1, 0, 1, 2);
        });
        sentence("Terms: the least shift that can be in y", () -> {
            StarPlates s = row(new int[] {0, 0, 3, 0, 9, 0}, new int[] {0, 999, 1, 999, 3, 999});
            dueLay("-2997", s, 0, 1, 3, 0, 0, 3, 0, -2997);
            duePairs("-2997", s, 0, 1, 0, 1, 2);
        });
        sentence("Terms: the greatest shift that can be in x", () -> {
            StarPlates s = row(new int[] {999, 0, 999, 3, 999, 9}, new int[] {999, 999, 999, 998, 999, 996});
            dueLay("3996", s, 0, 1, 3, 0, 2, 3, 3996, 2997);
            duePairs("3996", s, 0, 1, 0, 1, 2);
        });
        sentence("Terms: the greatest shift that can be in y", () -> {
            StarPlates s = row(new int[] {0, 999, 3, 999, 9, 999}, new int[] {999, 999, 998, 999, 996, 999});
            dueLay("3996", s, 0, 1, 3, 0, 2, 3, 2997, 3996);
            duePairs("3996", s, 0, 1, 0, 1, 2);
        });
    }

    private static void rightUpon() {
        sentence("Terms: only LAYS count that bring some SPOT right upon one", () -> {
            StarPlates s = new StarPlates();
            s.reach(2);
            put(s, 1, 0, 0, 100, 0);
            put(s, 2, 0, 0, 103, 0);
            dueLay("halfway there would be two pairs", s, 0, 1, 1, 0, 0, 1, -103, 0);
        });
        sentence("Terms: right upon in x alone is not right upon", () -> {
            StarPlates s = new StarPlates();
            s.reach(2);
            put(s, 1, 100, 100, 500, 100);
            put(s, 2, 100, 100, 500, 103);
            dueLay("x alone", s, 0, 1, 1, 0, 0, 1, -400, -3);
        });
    }

    private static void mostAndLeast() {
        sentence("Terms: BEST is the one with the most PAIRS, whatever the sum", () -> {
            StarPlates s = new StarPlates();
            put(s, 1, 0, 0, 100, 0, 300, 0);
            put(s, 2, 0, 0, 200, 0, 103, 0);
            dueLay("three with a sum, two without", s, 0, 1, 2, 0, 0, 1, 100, 0);
            s.wipe(1, 1);
            s.spot(1, 303, 0);
            dueLay("all three", s, 0, 1, 3, 3, 0, 1, -3, 0);
        });
        sentence("Terms: of these the least sum, ahead of the least TURN", () -> {
            StarPlates s = new StarPlates();
            put(s, 1, 100, 100, 200, 100, 100, 201, 200, 201);
            put(s, 2, 100, 100, 201, 100, 100, 200, 201, 200);
            dueLay("turn 0 has a sum", s, 0, 1, 4, 0, 1, 1, 300, 0);
        });
        sentence("Terms: of these the least sum, ahead of the least STRETCH", () -> {
            StarPlates s = new StarPlates();
            put(s, 1, 0, 0, 20, 0, 500, 500, 511, 500);
            put(s, 2, 0, 0, 10, 0);
            dueLay("stretch 1 has a sum", s, 0, 1, 2, 0, 0, 2, 0, 0);
        });
        sentence("Terms: of these the least sum, ahead of the least shift", () -> {
            StarPlates s = new StarPlates();
            put(s, 1, 0, 0, 100, 0, 300, 0);
            put(s, 2, 0, 0, 100, 0, 303, 0);
            dueLay("by -3 it is 6", s, 0, 1, 3, 3, 0, 1, 0, 0);
        });
    }

    private static void leastOfAlike() {
        sentence("Terms: of these the least TURN, ahead of the least STRETCH", () -> {
            StarPlates s = new StarPlates();
            put(s, 1, 0, 0, 20, 0, 500, 500, 500, 510);
            put(s, 2, 0, 0, 10, 0);
            dueLay("turn 0, stretch 2", s, 0, 1, 2, 0, 0, 2, 0, 0);
        });
        sentence("Terms: of these the least STRETCH, ahead of the least shift", () -> {
            StarPlates s = new StarPlates();
            put(s, 1, 0, 0, 20, 0, 500, 500, 510, 500);
            put(s, 2, 0, 0, 10, 0);
            dueLay("stretch 1", s, 0, 1, 2, 0, 0, 1, 500, 500);
        });
        sentence("Terms: of these the least shift in x, ahead of y", () -> {
            StarPlates s = new StarPlates();
            put(s, 1, 10, 0, 0, 500, 20, 100);
            put(s, 2, 0, 0);
            dueLay("x 0, y 500", s, 0, 1, 1, 0, 0, 1, 0, 500);
            duePairs("x 0, y 500", s, 0, 1, 1);
        });
        sentence("Terms: of these the least shift in y", () -> {
            StarPlates s = new StarPlates();
            put(s, 1, 7, 500, 7, 20, 7, 300);
            put(s, 2, 0, 0);
            dueLay("y 20", s, 0, 1, 1, 0, 0, 1, 7, 20);
            duePairs("y 20", s, 0, 1, 1);
        });
        sentence("Terms: a shift below 0 is less than 0 and than one above", () -> {
            StarPlates s = new StarPlates();
            put(s, 1, 510, 500, 505, 500, 490, 500);
            put(s, 2, 500, 500);
            dueLay("x -10", s, 0, 1, 1, 0, 0, 1, -10, 0);
            StarPlates t = new StarPlates();
            put(t, 1, 500, 510, 500, 500, 500, 480);
            put(t, 2, 500, 500);
            dueLay("y -20", t, 0, 1, 1, 0, 0, 1, 0, -20);
        });
    }

    /** Plates with anchors and one spot more: how many pairs there are with it that far off. */
    private static StarPlates off(int reach, int dx, int dy) {
        StarPlates s = new StarPlates();
        s.reach(reach);
        anchored(s, 1, 500, 500);
        anchored(s, 2, 500 + dx, 500 + dy);
        return s;
    }

    private static void far() {
        sentence("Terms: FAR is the greater of |dx|, |dy|", () -> {
            dueLay("dx", off(3, 3, 1), 0, 1, 5, 3, 0, 1, 0, 0);
            dueLay("dy", off(3, 1, 2), 0, 1, 5, 2, 0, 1, 0, 0);
            dueLay("both alike", off(3, 3, 3), 0, 1, 5, 3, 0, 1, 0, 0);
        });
        sentence("Terms: FAR is |dx|, |dy|: below 0 as above", () -> {
            dueLay("dx", off(3, -3, 1), 0, 1, 5, 3, 0, 1, 0, 0);
            dueLay("dy", off(3, 1, -2), 0, 1, 5, 2, 0, 1, 0, 0);
            dueLay("both", off(3, -3, -2), 0, 1, 5, 3, 0, 1, 0, 0);
        });
    }

    private static void reachOfPairs() {
        int[] reaches = {0, 1, 3, 49, 50};
        sentence("Terms: a PAIR may be FAR as much as REACH", () -> {
            for (int r : reaches) {
                due(r + " to the right", off(r, r, 0).pair(0, 1, 4), 4);
                due(r + " to the left", off(r, -r, 0).pair(0, 1, 4), 4);
                due(r + " up", off(r, 0, r).pair(0, 1, 4), 4);
                due(r + " down", off(r, 0, -r).pair(0, 1, 4), 4);
            }
        });
        sentence("Terms: a PAIR may not be FAR by one more than REACH", () -> {
            for (int r : reaches) {
                due(r + " to the right", off(r, r + 1, 0).pair(0, 1, 4), NONE);
                due(r + " to the left", off(r, -r - 1, 0).pair(0, 1, 4), NONE);
                due(r + " up", off(r, 0, r + 1).pair(0, 1, 4), NONE);
                due(r + " down", off(r, 0, -r - 1).pair(0, 1, 4), NONE);
            }
        });
        sentence("Terms: at REACH 0 a PAIR is right upon", () -> {
            dueLay("right upon", off(0, 0, 0), 0, 1, 5, 0, 0, 1, 0, 0);
            dueLay("one off", off(0, 1, 1), 0, 1, 4, 0, 0, 1, 0, 0);
        });
        sentence("Terms: FAR as it comes: a STRETCH makes it more", () -> {
            StarPlates s = new StarPlates();
            put(s, 1, 400, 400, 460, 400, 400, 580, 300, 300);
            put(s, 2, 500, 500, 530, 500, 500, 590, 451, 450);
            dueLay("one off comes two off", s, 0, 1, 4, 2, 0, 2, -600, -600);
            s.wipe(1, 3);
            s.spot(1, 452, 450);
            dueLay("two off comes four off", s, 0, 1, 3, 0, 0, 2, -600, -600);
        });
    }

    private static void oneAtMost() {
        sentence("Terms: a SPOT of A is in one PAIR at most", () -> {
            StarPlates s = new StarPlates();
            anchored(s, 1, 500, 500);
            anchored(s, 2, 501, 500, 500, 500, 499, 500);
            dueLay("one of three", s, 0, 1, 5, 0, 0, 1, 0, 0);
            duePairs("the nearest", s, 0, 1, 0, 1, 2, 3, NONE, 4, NONE);
        });
        sentence("Terms: a SPOT of B is in one PAIR at most", () -> {
            StarPlates s = new StarPlates();
            anchored(s, 1, 501, 500, 500, 500, 499, 500);
            anchored(s, 2, 500, 500);
            dueLay("one of three", s, 0, 1, 5, 0, 0, 1, 0, 0);
            duePairs("the nearest", s, 0, 1, 0, 1, 2, 3, 5);
        });
    }

    private static void asMany() {
        sentence("Terms: PAIRS are as many as can be, not the nearest first", () -> {
            StarPlates s = new StarPlates();
            anchored(s, 1, 500, 500, 503, 500);
            anchored(s, 2, 501, 500, 498, 500);
            dueLay("two more", s, 0, 1, 6, 4, 0, 1, 0, 0);
            duePairs("each gives way", s, 0, 1, 0, 1, 2, 3, 5, 4);
        });
        sentence("Terms: one PAIR more at any sum", () -> {
            StarPlates s = new StarPlates();
            s.reach(50);
            anchored(s, 1, 500, 500, 560, 500, 620, 500, 680, 500);
            anchored(s, 2, 511, 500, 570, 500, 630, 500, 450, 500);
            dueLay("199 for eight, not 31 for seven", s, 0, 1, 8, 199, 0, 1, 0, 0);
            duePairs("each gives way", s, 0, 1, 0, 1, 2, 3, 5, 6, 7, 4);
        });
        sentence("Terms: of several such sets the least sum of FAR", () -> {
            StarPlates s = new StarPlates();
            anchored(s, 1, 502, 500, 500, 500);
            anchored(s, 2, 500, 501, 502, 501);
            dueLay("2, not 4", s, 0, 1, 6, 2, 0, 1, 0, 0);
            duePairs("crossed", s, 0, 1, 0, 1, 2, 3, 5, 4);
        });
    }

    private static void firstOfAlike() {
        sentence("Terms: of these the first by the SPOTS of A: the lesser first", () -> {
            StarPlates s = new StarPlates();
            anchored(s, 1, 501, 500, 499, 500);
            anchored(s, 2, 500, 500);
            duePairs("two alike", s, 0, 1, 0, 1, 2, 3, 4);
            StarPlates t = new StarPlates();
            anchored(t, 1, 499, 500, 501, 500);
            anchored(t, 2, 500, 500);
            duePairs("two alike, exchanged", t, 0, 1, 0, 1, 2, 3, 4);
        });
        sentence("Terms: of these the first: B's SPOT of the least number chooses", () -> {
            StarPlates s = new StarPlates();
            anchored(s, 1, 502, 500, 500, 500);
            anchored(s, 2, 501, 500, 501, 501);
            dueLay("one off each", s, 0, 1, 6, 2, 0, 1, 0, 0);
            duePairs("the lesser of A to the lesser of B", s, 0, 1, 0, 1, 2, 3, 4, 5);
        });
        sentence("Terms: of these the first: none last", () -> {
            StarPlates s = new StarPlates();
            anchored(s, 1, 500, 500);
            anchored(s, 2, 501, 500, 499, 500, 500, 499);
            dueLay("three alike", s, 0, 1, 5, 1, 0, 1, 0, 0);
            duePairs("the first has it", s, 0, 1, 0, 1, 2, 3, 4, NONE, NONE);
        });
        sentence("Terms: of these the first: none is after the eighth SPOT too", () -> {
            StarPlates s = new StarPlates();
            anchored(s, 1, 300, 700, 350, 250, 650, 300, 500, 500);
            anchored(s, 2, 499, 500, 501, 500);
            duePairs("the eighth of A", s, 0, 1, 0, 1, 2, 3, 7, NONE);
        });
    }

    /** All of B lie to the right of all of A, so that every choice has the same sum. */
    private static StarPlates inRow(int[] lowerOrder, int[] upperOrder) {
        int[] lower = {500, 503, 506};
        int[] upper = {510, 514, 517};
        StarPlates s = new StarPlates();
        s.reach(20);
        anchored(s, 1, lower[lowerOrder[0]], 500, lower[lowerOrder[1]], 500, lower[lowerOrder[2]], 500);
        anchored(s, 2, upper[upperOrder[0]], 500, upper[upperOrder[1]], 500, upper[upperOrder[2]], 500);
        return s;
    }

    private static void firstOfMany() {
        sentence("Terms: of these the first: of all choices alike, wherever the nearest are", () -> {
            for (int[] lowerOrder : ORDERS) {
                for (int[] upperOrder : ORDERS) {
                    StarPlates s = inRow(lowerOrder, upperOrder);
                    dueLay("in a row", s, 0, 1, 7, 32, 0, 1, 0, 0);
                    duePairs("in a row", s, 0, 1, 0, 1, 2, 3, 4, 5, 6);
                }
            }
        });
        sentence("Terms: of these the first: of all choices alike the last have none", () -> {
            for (int[] upperOrder : ORDERS) {
                for (int first : new int[] {500, 503}) {
                    StarPlates s = new StarPlates();
                    s.reach(20);
                    anchored(s, 1, first, 500, 1003 - first, 500);
                    anchored(s, 2, 510, 500 + upperOrder[0], 510, 500 + upperOrder[1], 510, 500 + upperOrder[2]);
                    dueLay("two of three", s, 0, 1, 6, 17, 0, 1, 0, 0);
                    duePairs("two of three", s, 0, 1, 0, 1, 2, 3, 4, 5, NONE);
                }
            }
        });
    }

    private static void full() {
        sentence("Terms: 8 SPOTS on 8", () -> {
            StarPlates s = new StarPlates();
            put(s, 1, EIGHT);
            int[] back = new int[16];
            for (int n = 0; n < 16; n += 2) {
                back[n] = EIGHT[14 - n];
                back[n + 1] = EIGHT[15 - n];
            }
            put(s, 2, back);
            dueLay("all", s, 0, 1, 8, 0, 0, 1, 0, 0);
            duePairs("the other way round", s, 0, 1, 7, 6, 5, 4, 3, 2, 1, 0);
        });
        sentence("Terms: 8 PAIRS with the greatest sum that can be", () -> {
            StarPlates s = new StarPlates();
            s.reach(50);
            put(s, 1, EIGHT);
            int[] moved = EIGHT.clone();
            for (int n = 1; n < 8; n++) {
                moved[2 * n + n / 4] += n % 2 == 0 ? 50 : -50;
            }
            put(s, 2, moved);
            dueLay("seven by 50", s, 0, 1, 8, 350, 0, 1, 0, 0);
            duePairs("seven by 50", s, 0, 1, 0, 1, 2, 3, 4, 5, 6, 7);
        });
        sentence("Terms: 8 SPOTS on one", () -> {
            StarPlates s = new StarPlates();
            put(s, 1, 500, 500);
            put(s, 2, EIGHT);
            dueLay("the least shift", s, 0, 1, 1, 0, 0, 1, -320, 200);
            duePairs("one alone", s, 0, 1, NONE, NONE, NONE, 0, NONE, NONE, NONE, NONE);
        });
        sentence("Terms: one SPOT on 8", () -> {
            StarPlates s = new StarPlates();
            put(s, 1, EIGHT);
            put(s, 2, 500, 500);
            dueLay("the least shift", s, 0, 1, 1, 0, 0, 1, -400, -400);
            duePairs("one alone", s, 0, 1, 0);
        });
        sentence("Terms: 8 SPOTS on 8, each near all others", () -> {
            int[] crowd = {500, 500, 501, 500, 503, 500, 500, 502, 502, 503, 503, 503, 500, 503, 501, 502};
            StarPlates s = new StarPlates();
            s.reach(50);
            put(s, 1, crowd);
            put(s, 2, crowd);
            dueLay("right upon", s, 0, 1, 8, 0, 0, 1, 0, 0);
            duePairs("each itself", s, 0, 1, 0, 1, 2, 3, 4, 5, 6, 7);
        });
    }

    private static void pairRefused() {
        sentence("9: NONE if there is no PAIR", () -> duePairs("too far", off(3, 4, 0), 0, 1, 0, 1, 2, 3, NONE));
        sentence("9: NONE if there is no LAY", () -> {
            due("A without spots", oneWithSpots().pair(1, 0, 0), NONE);
            due("B without spots", oneWithSpots().pair(0, 1, 0), NONE);
        });
        sentence("9: NONE if a is b", () -> {
            for (int p = 0; p < 3; p++) {
                due("pair(" + p + ", " + p + ", 0)", sky().pair(p, p, 0), NONE);
            }
        });
        sentence("9: NONE for a that is not there", () -> {
            for (int a : new int[] {-1, 3, 5, Integer.MIN_VALUE, Integer.MAX_VALUE}) {
                due("pair(" + a + ", 0, 0)", sky().pair(a, 0, 0), NONE);
            }
        });
        sentence("9: NONE for b that is not there", () -> {
            for (int b : new int[] {-1, -5, 3, 5, 6, Integer.MIN_VALUE, Integer.MAX_VALUE}) {
                due("pair(1, " + b + ", 0)", sky().pair(1, b, 0), NONE);
            }
        });
        sentence("9: NONE for a SPOT of b below 0", () -> {
            due("pair(1, 0, -1)", sky().pair(1, 0, -1), NONE);
            due("the least number", sky().pair(1, 0, Integer.MIN_VALUE), NONE);
        });
        sentence("9: NONE for a SPOT of b past the last", () -> {
            for (int j : new int[] {5, 7, 8, 9, Integer.MAX_VALUE}) {
                due("pair(1, 0, " + j + ")", sky().pair(1, 0, j), NONE);
            }
            due("the last one is in a pair", sky().pair(1, 0, 4), 4);
        });
        sentence("9: NONE for a SPOT that was wiped, though it was in a PAIR", () -> {
            StarPlates s = off(3, 0, 0);
            due("before", s.pair(0, 1, 4), 4);
            s.wipe(1, 4);
            due("after", s.pair(0, 1, 4), NONE);
        });
        sentence("9: NONE past the last SPOT of b, though a has more", () -> {
            StarPlates s = new StarPlates();
            anchored(s, 1, 500, 500);
            anchored(s, 2);
            due("pair(0, 1, 4)", s.pair(0, 1, 4), NONE);
        });
    }

    private static void changes() {
        sentence("8, 9: as PLATES and SPOTS come, whatever was asked before", () -> dueAlike("asked between", () -> {
            StarPlates s = new StarPlates();
            s.reach(5);
            askAround(s);
            put(s, 20, 100, 100, 900, 120, 130, 900, 870, 940);
            askAround(s);
            put(s, 1, 870, 940, 100, 100, 900, 120, 130, 900, 500, 500, 600, 300, 123, 456);
            askAround(s);
            s.spot(0, 504, 500);
            put(s, 10, 900, 120, 100, 100, 870, 940, 130, 900, 602, 300, 132, 456);
            return s;
        }, Checks::sky));
        sentence("8, 9: as SPOTS go, whatever was asked before", () -> dueAlike("asked between", () -> {
            StarPlates s = sky();
            s.spot(1, 777, 555);
            askAround(s);
            s.wipe(1, 7);
            return s;
        }, Checks::sky));
        sentence("8, 9: as REACH becomes another, whatever was asked before", () -> dueAlike("asked between", () -> {
            StarPlates s = sky();
            s.reach(0);
            askAround(s);
            s.reach(50);
            askAround(s);
            s.reach(5);
            return s;
        }, Checks::sky));
    }
}
