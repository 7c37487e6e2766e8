/** Promise 15, and what 'Terms' says of slips: a test for each boundary. */
public final class SlipBoundsTest extends Checks {
    public static void main(String[] args) {
        run(SlipBoundsTest::digits, SlipBoundsTest::notNeighbours, SlipBoundsTest::threeDigits, SlipBoundsTest::reach,
                SlipBoundsTest::pairs, SlipBoundsTest::order, SlipBoundsTest::lays, SlipBoundsTest::refused,
                SlipBoundsTest::changes);
    }

    /** Plate 0 is the frame, with free spots from 4 on; spot 4 of plate 1 is at x, y. */
    private static StarPlates slipped(int x, int y, int... free) {
        StarPlates s = new StarPlates();
        anchored(s, 10, free);
        anchored(s, 40, x, y);
        dueLay("as they lie", s, 0, 1, 4, 0, 0, 1, 0, 0);
        return s;
    }

    private static void dueFound(String what, StarPlates s, int axis, int digit, int spot) {
        dueSlip(what, s, 1, 4, axis, digit, spot);
    }

    private static void dueNoSlip(String what, StarPlates s) {
        dueSlip(what, s, 1, 4, NONE, NONE, NONE);
    }

    private static void digits() {
        sentence("15: x, the first digit and the next", () ->
                dueFound("213 for 123", slipped(213, 456, 123, 456), 1, 0, 4));
        sentence("15: x, the second digit and the next", () ->
                dueFound("132 for 123", slipped(132, 456, 123, 456), 1, 1, 4));
        sentence("15: y, the first digit and the next", () ->
                dueFound("546 for 456", slipped(123, 546, 123, 456), 2, 0, 4));
        sentence("15: y, the second digit and the next", () ->
                dueFound("465 for 456", slipped(123, 465, 123, 456), 2, 1, 4));
    }

    private static void notNeighbours() {
        sentence("Terms: digits that are no neighbours aren't exchanged", () -> {
            dueNoSlip("321 for 123 in x", slipped(321, 456, 123, 456));
            dueNoSlip("654 for 456 in y", slipped(123, 654, 123, 456));
        });
        sentence("Terms: two digits alone are exchanged", () -> {
            dueNoSlip("312 for 123", slipped(312, 456, 123, 456));
            dueNoSlip("231 for 123", slipped(231, 456, 123, 456));
        });
        sentence("Terms: x or y alone, not both", () -> dueNoSlip("both", slipped(132, 465, 123, 456)));
        sentence("Terms: x is not exchanged with y", () -> dueNoSlip("456, 123", slipped(456, 123, 123, 456)));
        sentence("Terms: alike digits exchanged change nothing", () ->
                dueNoSlip("555, 555", slipped(555, 555, 560, 555, 551, 551)));
    }

    private static void threeDigits() {
        sentence("Terms: written with three digits: 5 is 005", () -> {
            dueFound("050", slipped(5, 456, 50, 456), 1, 1, 4);
            dueNoSlip("not 500", slipped(5, 456, 500, 456));
            dueFound("050 in y", slipped(456, 5, 456, 50), 2, 1, 4);
        });
        sentence("Terms: written with three digits: 50 is 050", () -> {
            dueFound("500", slipped(50, 456, 500, 456), 1, 0, 4);
            dueFound("005", slipped(50, 456, 5, 456), 1, 1, 4);
            dueFound("500 in y", slipped(456, 50, 456, 500), 2, 0, 4);
            dueFound("005 in y", slipped(456, 50, 456, 5), 2, 1, 4);
        });
        sentence("Terms: written with three digits: 500 may be 050", () -> {
            dueFound("050", slipped(500, 456, 50, 456), 1, 0, 4);
            dueNoSlip("not 005", slipped(500, 456, 5, 456));
        });
        sentence("Terms: 0 and 999 stay what they are", () -> {
            dueNoSlip("0", slipped(0, 999, 9, 999, 90, 999, 0, 990));
            dueNoSlip("999", slipped(999, 0, 990, 0, 999, 9));
        });
        sentence("Terms: from the least to the greatest that can come", () -> {
            dueFound("998 for 989", slipped(998, 456, 989, 456), 1, 1, 4);
            dueFound("899 for 989", slipped(899, 456, 989, 456), 1, 0, 4);
            dueFound("001 for 010", slipped(10, 456, 1, 456), 1, 1, 4);
        });
    }

    private static void reach() {
        sentence("Terms: a SLIP may come FAR as much as REACH", () -> {
            dueFound("3 more in x", slipped(132, 456, 126, 456), 1, 1, 4);
            dueFound("3 less in x", slipped(132, 456, 120, 456), 1, 1, 4);
            dueFound("3 more in y", slipped(132, 456, 123, 459), 1, 1, 4);
            dueFound("3 less in y", slipped(132, 456, 123, 453), 1, 1, 4);
            dueFound("3 in both", slipped(132, 456, 126, 453), 1, 1, 4);
        });
        sentence("Terms: a SLIP may not come FAR by one more than REACH", () -> {
            dueNoSlip("4 more in x", slipped(132, 456, 127, 456));
            dueNoSlip("4 less in x", slipped(132, 456, 119, 456));
            dueNoSlip("4 more in y", slipped(132, 456, 123, 460));
            dueNoSlip("4 less in y", slipped(132, 456, 123, 452));
        });
        sentence("Terms: at REACH 0 a SLIP comes right upon", () -> {
            StarPlates s = slipped(132, 456, 123, 456);
            s.reach(0);
            dueFound("right upon", s, 1, 1, 4);
            StarPlates t = slipped(132, 456, 124, 456);
            t.reach(0);
            dueNoSlip("one off", t);
        });
        sentence("Terms: at REACH 50 a SLIP may come 50 off", () -> {
            StarPlates s = slipped(219, 456, 241, 456);
            s.reach(50);
            due("in a pair: 22 off", s.pair(0, 1, 4), 4);
            StarPlates t = slipped(219, 456, 341, 456);
            t.reach(50);
            dueFound("50 off 291", t, 1, 1, 4);
            StarPlates u = slipped(219, 456, 342, 456);
            u.reach(50);
            dueNoSlip("51 off 291", u);
        });
    }

    private static void pairs() {
        sentence("15: NONE if the SPOT is in a PAIR", () -> {
            // spot 1 of either, at 300, 140: 030, 140 and 300, 104 are free
            StarPlates s = slipped(777, 555, 30, 140, 300, 104);
            dueSlip("in a pair", s, 1, 1, NONE, NONE, NONE);
        });
        sentence("Terms: a SPOT of the FRAME in a PAIR with that PLATE is not come to", () -> {
            // 030, 140 would come to 300, 140
            dueNoSlip("in a pair", slipped(30, 140));
        });
        sentence("Terms: a SPOT of the FRAME in a PAIR with another PLATE may be come to", () -> {
            StarPlates s = slipped(132, 456, 123, 456);
            anchored(s, 50, 123, 456);
            due("in a pair with plate 2", s.pair(0, 2, 4), 4);
            dueFound("of plate 1", s, 1, 1, 4);
        });
        sentence("Terms: two SPOTS of a PLATE may have a SLIP to one", () -> {
            StarPlates s = slipped(132, 456, 123, 456);
            s.spot(1, 213, 456);
            dueSlip("the one", s, 1, 4, 1, 1, 4);
            dueSlip("the other", s, 1, 5, 1, 0, 4);
        });
        sentence("15: NONE if the FRAME has no SPOT that is in no PAIR", () -> dueNoSlip("all in pairs", slipped(132, 456)));
    }

    private static void order() {
        sentence("Terms: the first by x ahead of y", () -> {
            dueFound("x 1 ahead of y 0", slipped(132, 465, 132, 645, 123, 465), 1, 1, 5);
            dueFound("x 1 ahead of y 1", slipped(132, 465, 132, 456, 123, 465), 1, 1, 5);
        });
        sentence("Terms: then the place of the first digit", () -> {
            dueFound("in x", slipped(132, 465, 123, 465, 312, 465), 1, 0, 5);
            dueFound("in y", slipped(132, 465, 132, 456, 132, 645), 2, 0, 5);
        });
        sentence("Terms: then the FRAME's SPOT, not the nearest", () -> {
            dueFound("the lesser", slipped(132, 456, 126, 456, 123, 456), 1, 1, 4);
            dueFound("the lesser, exchanged", slipped(132, 456, 123, 456, 126, 456), 1, 1, 4);
        });
        sentence("Terms: the FRAME's first SPOT too", () -> {
            StarPlates s = new StarPlates();
            put(s, 10, 123, 456, 500, 500, 700, 110, 900, 800);
            put(s, 40, 132, 456, 500, 500, 700, 110, 900, 800);
            dueSlip("the first", s, 1, 0, 1, 1, 0);
        });
        sentence("Terms: the FRAME's eighth SPOT too", () ->
                dueFound("the eighth", slipped(132, 456, 600, 600, 700, 300, 450, 750, 123, 456), 1, 1, 7));
    }

    private static void lays() {
        sentence("Terms: exchanged on the PLATE, and by its BEST LAY it comes", () -> {
            // turned by 1 and stretched by 2: x, y comes to 1100 - 2 y, 2 x - 900
            StarPlates s = new StarPlates();
            put(s, 1, 100, 100, 120, 100, 100, 140, 800, 600);
            put(s, 2, 500, 500, 500, 490, 520, 500, 570, 150);
            dueLay("turned", s, 0, 1, 3, 0, 1, 2, 1100, -900);
            dueSlip("750, 150", s, 1, 3, 1, 0, 3);
            s.wipe(1, 3);
            s.spot(1, 750, 510);
            dueSlip("750, 150 by y", s, 1, 3, 2, 0, 3);
        });
        sentence("Terms: a BEST LAY with one PAIR is enough", () -> {
            StarPlates s = new StarPlates();
            put(s, 10, 0, 0, 123, 456);
            put(s, 40, 500, 0, 263, 456);
            dueLay("the least shift", s, 0, 1, 1, 0, 0, 1, -500, 0);
            dueSlip("623", s, 1, 1, 1, 0, 1);
        });
        sentence("15: NONE if there is no LAY, as the FRAME has no SPOTS", () -> {
            StarPlates s = new StarPlates();
            put(s, 40, 123, 456);
            put(s, 10);
            dueSlip("no lay", s, 0, 0, NONE, NONE, NONE);
        });
        sentence("Terms: a place that none can be at may be come through", () -> {
            StarPlates s = new StarPlates();
            put(s, 1, 500, 300, 200, 900, 800, 750, 0, 456);
            put(s, 2, 510, 300, 210, 900, 810, 750, 70, 456);
            dueLay("by -10", s, 0, 1, 3, 0, 0, 1, -10, 0);
            dueSlip("007 comes to -3", s, 1, 3, 1, 1, 3);
        });
    }

    private static void refused() {
        sentence("15: NONE if p is the FRAME", () -> {
            StarPlates s = slipped(132, 456, 123, 456);
            for (int j = 0; j < 5; j++) {
                dueSlip("of the frame", s, 0, j, NONE, NONE, NONE);
            }
        });
        sentence("15: NONE for a PLATE below 0", () -> {
            for (int p : new int[] {-1, -5, Integer.MIN_VALUE}) {
                dueSlip("plate", sky(), p, 5, NONE, NONE, NONE);
            }
            dueSlip("without plates", new StarPlates(), -1, 0, NONE, NONE, NONE);
        });
        sentence("15: NONE for a PLATE past the last", () -> {
            for (int p : new int[] {3, 4, 5, Integer.MAX_VALUE}) {
                dueSlip("plate", sky(), p, 5, NONE, NONE, NONE);
            }
        });
        sentence("15: NONE for a SPOT below 0", () -> {
            dueSlip("-1", sky(), 2, -1, NONE, NONE, NONE);
            dueSlip("the least number", sky(), 2, Integer.MIN_VALUE, NONE, NONE, NONE);
        });
        sentence("15: NONE for a SPOT past the last", () -> {
            dueSlip("the last has one", sky(), 2, 5, 1, 1, 6);
            for (int j : new int[] {6, 7, 8, Integer.MAX_VALUE}) {
                dueSlip("past it", sky(), 2, j, NONE, NONE, NONE);
            }
        });
        sentence("15: NONE for another what", () -> {
            for (int what : new int[] {-1, 3, 4, Integer.MIN_VALUE, Integer.MAX_VALUE}) {
                due("slip(2, 5, " + what + ")", sky().slip(2, 5, what), NONE);
            }
        });
        sentence("15: NONE for a SPOT that was wiped", () -> {
            StarPlates s = slipped(132, 456, 123, 456);
            dueFound("before", s, 1, 1, 4);
            s.wipe(1, 4);
            dueNoSlip("after", s);
        });
    }

    private static void changes() {
        sentence("15: as an earlier PLATE becomes the FRAME", () -> {
            StarPlates s = slipped(132, 456, 123, 456);
            dueFound("before", s, 1, 1, 4);
            anchored(s, 5, 777, 555, 231, 456);
            dueNoSlip("132 for 231", s);
            dueSlip("of the old frame", s, 0, 4, NONE, NONE, NONE);
            s.wipe(2, 5);
            s.spot(2, 213, 456);
            dueSlip("213 for 123", s, 0, 4, 1, 0, 5);
            dueSlip("of the new frame", s, 2, 5, NONE, NONE, NONE);
        });
        sentence("15: as REACH becomes another", () -> {
            StarPlates s = slipped(132, 456, 126, 456);
            dueFound("at 3", s, 1, 1, 4);
            s.reach(2);
            dueNoSlip("at 2", s);
            s.reach(6);
            due("at 6 in a pair", s.pair(0, 1, 4), 4);
            dueNoSlip("at 6", s);
        });
        sentence("15: as the SPOT of the FRAME comes and goes", () -> {
            StarPlates s = slipped(132, 456);
            dueNoSlip("not yet", s);
            s.spot(0, 123, 456);
            dueFound("there", s, 1, 1, 4);
            s.wipe(0, 4);
            dueNoSlip("gone", s);
        });
    }
}
