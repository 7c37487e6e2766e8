/** Promises 10 to 14, and what 'Terms' says of tracks and motions: a test for each boundary. */
public final class TrackBoundsTest extends Checks {
    public static void main(String[] args) {
        run(TrackBoundsTest::track, TrackBoundsTest::trackRefused, TrackBoundsTest::place,
                TrackBoundsTest::placeRefused, TrackBoundsTest::motionNone, TrackBoundsTest::motionEnds,
                TrackBoundsTest::motionParts, TrackBoundsTest::tellRefused, TrackBoundsTest::tellSpots,
                TrackBoundsTest::steady, TrackBoundsTest::still, TrackBoundsTest::together,
                TrackBoundsTest::foretellYears, TrackBoundsTest::foretellRounds, TrackBoundsTest::foretellRefused,
                TrackBoundsTest::full, TrackBoundsTest::changes);
    }

    private static void dueTrack(StarPlates s, int i, int... want) {
        for (int p = 0; p < want.length; p++) {
            due("track(" + i + ", " + p + ")", s.track(i, p), want[p]);
        }
    }

    /** Two plates with anchors; spot 4 of the frame moves from 500, 500 by so much. */
    private static StarPlates moved(int reach, int from, int to, int dx, int dy) {
        StarPlates s = new StarPlates();
        s.reach(reach);
        anchored(s, from, 500, 500);
        anchored(s, to, 500 + dx, 500 + dy);
        return s;
    }

    private static StarPlates onePlate() {
        StarPlates s = new StarPlates();
        put(s, 5, 10, 20, 300, 400);
        return s;
    }

    private static StarPlates emptyFrame() {
        StarPlates s = sky();
        s.plate(0);
        return s;
    }

    private static StarPlates eightTracks() {
        StarPlates s = new StarPlates();
        anchored(s, 1, 500, 500, 600, 300, 700, 700, 450, 820);
        anchored(s, 2, 500, 500, 600, 300, 700, 700, 452, 821);
        return s;
    }

    private static void track() {
        sentence("10: on the FRAME it is SPOT i", () -> {
            for (int i = 0; i < 7; i++) {
                due("track(" + i + ", 1)", sky().track(i, 1), i);
            }
            due("with one plate alone", onePlate().track(1, 0), 1);
        });
        sentence("10: on each other PLATE the one of the PAIR there", () -> {
            dueTrack(sky(), 0, 3, 0, 2);
            dueTrack(sky(), 1, 0, 1, 1);
            dueTrack(sky(), 2, 1, 2, 0);
            dueTrack(sky(), 3, 2, 3, 3);
        });
        sentence("10: NONE for a MISS", () -> {
            dueTrack(sky(), 4, 4, 4, NONE);
            dueTrack(sky(), 5, NONE, 5, 4);
            dueTrack(sky(), 6, NONE, 6, NONE);
        });
        sentence("10: NONE on a PLATE without SPOTS", () -> {
            StarPlates s = sky();
            s.plate(500);
            for (int i = 0; i < 7; i++) {
                due("track(" + i + ", 3)", s.track(i, 3), NONE);
            }
        });
        sentence("10: the eighth TRACK is as the others", () -> dueTrack(eightTracks(), 7, 7, 7));
        sentence("10: an earlier PLATE is the FRAME, and the TRACKS are its own", () -> {
            StarPlates s = sky();
            dueTrack(s, 0, 3, 0, 2);
            put(s, 0, 900, 120, 130, 900, 100, 100, 870, 940);
            dueTrack(s, 0, 1, 2, 0, 0);
            dueTrack(s, 3, 3, 0, 2, 3);
            due("no track 4", s.track(4, 3), NONE);
        });
        sentence("10: the FRAME loses a SPOT, and the TRACKS behind it are one less", () -> {
            StarPlates s = sky();
            s.wipe(1, 0);
            dueTrack(s, 0, 0, 0, 1);
            dueTrack(s, 3, 4, 3, NONE);
            due("no track 6", s.track(6, 1), NONE);
        });
    }

    private static void trackRefused() {
        sentence("10: NONE for a TRACK below 0", () -> {
            for (int i : new int[] {-1, -8, Integer.MIN_VALUE}) {
                due("track(" + i + ", 1)", sky().track(i, 1), NONE);
                due("track(" + i + ", 2)", sky().track(i, 2), NONE);
            }
        });
        sentence("10: NONE for a TRACK past the last", () -> {
            for (int i : new int[] {7, 8, 9, Integer.MAX_VALUE}) {
                due("track(" + i + ", 0)", sky().track(i, 0), NONE);
                due("track(" + i + ", 1)", sky().track(i, 1), NONE);
            }
            due("past the eighth", eightTracks().track(8, 0), NONE);
        });
        sentence("10: NONE past the FRAME's SPOTS, though another PLATE has more", () -> {
            StarPlates s = new StarPlates();
            anchored(s, 1);
            anchored(s, 2, 500, 500);
            due("track(4, 1)", s.track(4, 1), NONE);
            due("track(4, 0)", s.track(4, 0), NONE);
        });
        sentence("10: NONE for a PLATE below 0", () -> {
            due("track(0, -1)", sky().track(0, -1), NONE);
            due("track(8, -1)", sky().track(8, -1), NONE);
            due("the least number", sky().track(0, Integer.MIN_VALUE), NONE);
        });
        sentence("10: NONE for a PLATE past the last", () -> {
            for (int p : new int[] {3, 4, 5, 536870912, Integer.MAX_VALUE}) {
                due("track(0, " + p + ")", sky().track(0, p), NONE);
            }
        });
        sentence("10: NONE if the FRAME is without SPOTS", () -> {
            for (int p = 0; p < 4; p++) {
                due("track(0, " + p + ")", emptyFrame().track(0, p), NONE);
            }
        });
    }

    private static void duePlace(String what, StarPlates s, int i, int p, int x, int y) {
        due(what + ", x", s.place(i, p, 0), x);
        due(what + ", y", s.place(i, p, 1), y);
    }

    private static void place() {
        sentence("11: on the FRAME where its SPOT is", () -> {
            duePlace("track 4", sky(), 4, 1, 500, 500);
            duePlace("track 6", sky(), 6, 1, 123, 456);
        });
        sentence("11: as it comes: not where it is on its PLATE", () -> {
            StarPlates s = new StarPlates();
            put(s, 1, 100, 100, 130, 100, 100, 160, 400, 410);
            put(s, 2, 500, 500, 500, 490, 520, 500, 603, 400);
            dueLay("turned by 1 and stretched by 3", s, 0, 1, 4, 1, 1, 3, 1600, -1400);
            duePlace("0", s, 0, 1, 100, 100);
            duePlace("3", s, 3, 1, 400, 409);
        });
        sentence("11: as it comes: below 0 too", () -> {
            StarPlates s = new StarPlates();
            put(s, 1, 500, 300, 200, 900, 800, 750, 0, 0);
            put(s, 2, 510, 310, 210, 910, 810, 760, 7, 9);
            duePlace("-3, -1", s, 3, 1, -3, -1);
        });
        sentence("11: as it comes: above 999 too", () -> {
            StarPlates s = new StarPlates();
            put(s, 1, 500, 300, 200, 900, 800, 750, 999, 999);
            put(s, 2, 490, 290, 190, 890, 790, 740, 992, 990);
            duePlace("1002, 1000", s, 3, 1, 1002, 1000);
        });
        sentence("11: the eighth TRACK is as the others", () -> duePlace("7", eightTracks(), 7, 1, 452, 821));
    }

    private static void dueNoPlace(String what, StarPlates s, int i, int p) {
        duePlace(what + " " + i + ", " + p, s, i, p, NO_PLACE, NO_PLACE);
    }

    private static void placeRefused() {
        sentence("11: NONE - 9999 for a MISS", () -> {
            dueNoPlace("a miss", sky(), 4, 2);
            dueNoPlace("a miss", sky(), 6, 0);
            StarPlates s = onePlate();
            s.plate(500);
            dueNoPlace("a plate without spots", s, 0, 1);
        });
        sentence("11: NONE - 9999 for another what", () -> {
            for (int what : new int[] {-1, 2, 3, Integer.MIN_VALUE, Integer.MAX_VALUE}) {
                due("place(4, 0, " + what + ")", sky().place(4, 0, what), NO_PLACE);
            }
        });
        sentence("11: NONE - 9999 for a TRACK below 0", () -> {
            dueNoPlace("track", sky(), -1, 1);
            dueNoPlace("track", sky(), -1, 2);
            dueNoPlace("track", sky(), Integer.MIN_VALUE, 1);
        });
        sentence("11: NONE - 9999 for a TRACK past the last", () -> {
            dueNoPlace("track", sky(), 7, 1);
            dueNoPlace("track", sky(), 8, 0);
            dueNoPlace("track", sky(), Integer.MAX_VALUE, 1);
            dueNoPlace("past the eighth", eightTracks(), 8, 0);
        });
        sentence("11: NONE - 9999 for a PLATE that is not there", () -> {
            for (int p : new int[] {-1, 3, 4, 5, Integer.MIN_VALUE, Integer.MAX_VALUE}) {
                dueNoPlace("plate", sky(), 0, p);
            }
        });
        sentence("11: NONE - 9999 if the FRAME is without SPOTS", () -> {
            dueNoPlace("frame", emptyFrame(), 0, 3);
            dueNoPlace("other", emptyFrame(), 0, 0);
        });
    }

    private static void dueNoMotion(String what, StarPlates s, int i) {
        dueMotion(what, s, i, NO_PLACE, NO_PLACE, NO_PLACE, NO_PLACE);
    }

    private static void motionNone() {
        sentence("12: NONE - 9999 with one SPOT, as there is one PLATE", () -> dueNoMotion("one", onePlate(), 0));
        sentence("12: NONE - 9999 with one SPOT, as all others are MISSES", () -> dueNoMotion("misses", sky(), 6));
        sentence("12: NONE - 9999 with one SPOT, as the other PLATE has none", () -> {
            StarPlates s = onePlate();
            s.plate(500);
            dueNoMotion("no spots", s, 0);
        });
        sentence("12: two SPOTS are enough", () -> {
            dueMotion("last", sky(), 4, 4, 19, 0, 1);
            dueMotion("between", sky(), 5, 2, 9, 0, 1);
        });
        sentence("12: NONE - 9999 for another what", () -> {
            for (int what : new int[] {-1, 4, 5, Integer.MIN_VALUE, Integer.MAX_VALUE}) {
                due("motion(4, " + what + ")", sky().motion(4, what), NO_PLACE);
            }
        });
        sentence("12: NONE - 9999 for a TRACK that is not there", () -> {
            for (int i : new int[] {-1, 7, 8, Integer.MIN_VALUE, Integer.MAX_VALUE}) {
                dueNoMotion("track " + i, sky(), i);
            }
            dueNoMotion("past the eighth", eightTracks(), 8);
            dueNoMotion("frame without spots", emptyFrame(), 0);
        });
    }

    private static void motionEnds() {
        sentence("Terms: MOTION is from first to last by YEARS, not by number", () -> {
            StarPlates s = new StarPlates();
            s.reach(9);
            anchored(s, 30, 509, 494);
            anchored(s, 10, 500, 500);
            anchored(s, 20, 507, 501);
            dueMotion("9 and -6 by 20", s, 4, 9, 20, -3, 10);
        });
        sentence("Terms: those between don't count", () -> {
            StarPlates s = new StarPlates();
            anchored(s, 10, 500, 500);
            anchored(s, 11, 503, 503);
            anchored(s, 20, 500, 500);
            dueMotion("gone and back", s, 4, 0, 1, 0, 1);
        });
        sentence("Terms: the last one that is no MISS", () -> {
            StarPlates s = new StarPlates();
            anchored(s, 10, 500, 500);
            anchored(s, 12, 501, 500);
            anchored(s, 20);
            dueMotion("1 by 2", s, 4, 1, 2, 0, 1);
        });
        sentence("Terms: by one YEAR at least", () -> dueMotion("1", moved(3, 7, 8, 3, -2), 4, 3, 1, -2, 1));
        sentence("Terms: by 999 YEARS at most", () -> {
            dueMotion("without a common part", moved(3, 0, 999, 2, -1), 4, 2, 999, -1, 999);
            dueMotion("with one", moved(37, 0, 999, 37, -3), 4, 1, 27, -1, 333);
        });
        sentence("Terms: as far as REACH can be", () -> {
            dueMotion("50", moved(50, 0, 1, 50, -50), 4, 50, 1, -50, 1);
            dueMotion("-50", moved(50, 998, 999, -50, 50), 4, -50, 1, 50, 1);
        });
    }

    private static void motionParts() {
        sentence("Terms: fractions without a common part", () -> {
            dueMotion("6 and 4 by 10", moved(6, 0, 10, 6, 4), 4, 3, 5, 2, 5);
            dueMotion("6 and 5 by 15", moved(6, 3, 18, 6, 5), 4, 2, 5, 1, 3);
            dueMotion("12 by 8", moved(12, 0, 8, 12, 7), 4, 3, 2, 7, 8);
        });
        sentence("Terms: fractions that are whole are by 1", () -> {
            dueMotion("as much", moved(6, 0, 6, 6, -6), 4, 1, 1, -1, 1);
            dueMotion("more", moved(6, 0, 2, 6, 4), 4, 3, 1, 2, 1);
        });
        sentence("Terms: 0 is 0 by 1", () -> {
            dueMotion("in both", moved(3, 0, 12, 0, 0), 4, 0, 1, 0, 1);
            dueMotion("in x", moved(3, 0, 12, 0, 3), 4, 0, 1, 1, 4);
            dueMotion("in y", moved(3, 0, 12, 3, 0), 4, 1, 4, 0, 1);
        });
        sentence("Terms: that below is above 0 when that above is below 0", () -> {
            dueMotion("x", moved(6, 0, 10, -6, 4), 4, -3, 5, 2, 5);
            dueMotion("y", moved(6, 0, 10, 6, -4), 4, 3, 5, -2, 5);
            dueMotion("both", moved(6, 0, 10, -5, -5), 4, -1, 2, -1, 2);
        });
    }

    private static void dueTell(String what, StarPlates s, int i, int... want) {
        for (int n = 0; n < want.length; n++) {
            due(what + ": tell(" + i + ", " + n + ")", s.tell(i, n), want[n]);
        }
    }

    private static void tellRefused() {
        sentence("13: NONE for another what", () -> {
            for (int what : new int[] {-1, 4, 5, Integer.MIN_VALUE, Integer.MAX_VALUE}) {
                due("with another: tell(4, " + what + ")", twoMoved(3, -2, 3, -2).tell(4, what), NONE);
                due("still: tell(0, " + what + ")", sky().tell(0, what), NONE);
                due("without motion: tell(6, " + what + ")", sky().tell(6, what), NONE);
            }
        });
        sentence("13: NONE for a TRACK below 0", () -> {
            dueTell("-1", sky(), -1, NONE, NONE, NONE, NONE);
            dueTell("the least number", sky(), Integer.MIN_VALUE, NONE, NONE, NONE, NONE);
        });
        sentence("13: NONE for a TRACK past the last", () -> {
            dueTell("7", sky(), 7, NONE, NONE, NONE, NONE);
            dueTell("past the eighth", eightTracks(), 8, NONE, NONE, NONE, NONE);
            dueTell("the greatest number", sky(), Integer.MAX_VALUE, NONE, NONE, NONE, NONE);
        });
        sentence("13: NONE if the FRAME is without SPOTS", () ->
                dueTell("frame", emptyFrame(), 0, NONE, NONE, NONE, NONE));
        sentence("13: without MOTION NONE for 0, 1, 3, not for 2", () -> {
            dueTell("one plate", onePlate(), 0, NONE, NONE, 1, NONE);
            dueTell("misses", sky(), 6, NONE, NONE, 1, NONE);
            StarPlates s = onePlate();
            s.plate(500);
            dueTell("a plate without spots", s, 1, NONE, NONE, 1, NONE);
        });
    }

    private static void tellSpots() {
        sentence("13: how many SPOTS: one at least, it is its own", () -> due("tell(6, 2)", sky().tell(6, 2), 1));
        sentence("13: how many SPOTS: MISSES don't count", () -> {
            due("tell(0, 2)", sky().tell(0, 2), 3);
            due("tell(4, 2)", sky().tell(4, 2), 2);
        });
        sentence("13: how many SPOTS: 5 at most", () -> {
            StarPlates s = new StarPlates();
            for (int p = 0; p < 5; p++) {
                anchored(s, 10 * p);
            }
            for (int i = 0; i < 4; i++) {
                due("tell(" + i + ", 2)", s.tell(i, 2), 5);
            }
        });
    }

    /** Whether it is steady: at 500, then in that year, then in the year 20, at reach 5. */
    private static int steadyBy(int year, int then, int last, boolean inX) {
        StarPlates s = new StarPlates();
        s.reach(5);
        int[] at = {500, then, last};
        int[] years = {0, year, 20};
        for (int p = 0; p < 3; p++) {
            anchored(s, years[p], inX ? at[p] : 500, inX ? 500 : at[p]);
        }
        due("all found", s.tell(4, 2), 3);
        return s.tell(4, 0);
    }

    private static void dueSteady(String what, int year, int then, int last, int want) {
        due(what + " in x", steadyBy(year, then, last, true), want);
        due(what + " in y", steadyBy(year, then, last, false), want);
    }

    private static void steady() {
        sentence("Terms: STEADY if FAR is as much as REACH", () -> {
            dueSteady("5 below", 10, 497, 504, 1);
            dueSteady("5 above", 10, 503, 496, 1);
        });
        sentence("Terms: not STEADY if FAR is one more than REACH", () -> {
            dueSteady("6 below", 10, 496, 504, 0);
            dueSteady("6 above", 10, 504, 496, 0);
        });
        sentence("Terms: exactly; no rounding: a twentieth more than REACH", () -> {
            dueSteady("below", 7, 496, 503, 0);
            dueSteady("above", 7, 504, 497, 0);
        });
        sentence("Terms: exactly; no rounding: half more than REACH", () -> {
            dueSteady("below", 10, 497, 505, 0);
            dueSteady("above", 10, 503, 495, 0);
        });
        sentence("Terms: exactly; no rounding: a twentieth less than REACH", () -> {
            dueSteady("below", 13, 497, 503, 1);
            dueSteady("above", 13, 503, 497, 1);
        });
        sentence("Terms: STEADY with two SPOTS, whatever the MOTION", () -> {
            due("50 a year", moved(50, 0, 1, 50, -50).tell(4, 0), 1);
            due("a third a year", moved(1, 0, 3, 1, 0).tell(4, 0), 1);
            due("at reach 0", moved(0, 0, 3, 0, 0).tell(4, 0), 1);
        });
        sentence("Terms: STEADY if each of its SPOTS is, by its own YEAR", () -> {
            for (int turned = 0; turned < 5; turned++) {
                due("all on the way", steadyOfFive(turned, 500, 501, 502, 503, 504), 1);
                due("the one of 10 is off", steadyOfFive(turned, 500, 495, 502, 503, 504), 0);
                due("the one of 20 is off", steadyOfFive(turned, 500, 501, 496, 503, 504), 0);
                due("the one of 30 is off", steadyOfFive(turned, 500, 501, 502, 497, 504), 0);
            }
        });
        sentence("Terms: STEADY: a MISS between doesn't count", () -> {
            StarPlates s = new StarPlates();
            anchored(s, 0, 500, 500);
            anchored(s, 10, 520, 500);
            anchored(s, 20, 503, 500);
            dueTell("a miss", s, 4, 1, 0, 2, NONE);
        });
    }

    /** Places by the years 0, 10, .. 40; the plates come in this order, but from another one on. */
    private static int steadyOfFive(int turned, int... at) {
        StarPlates s = new StarPlates();
        s.reach(5);
        for (int p = 0; p < 5; p++) {
            int n = (p + turned) % 5;
            anchored(s, 10 * n, at[n], 500);
        }
        due("all found", s.tell(4, 2), 5);
        return s.tell(4, 0);
    }

    private static void still() {
        sentence("Terms: STILL with MOTION 0, 0", () -> {
            due("tell", moved(3, 0, 5, 0, 0).tell(4, 1), 1);
            due("look", moved(3, 0, 5, 0, 0).look(4), 5);
        });
        sentence("Terms: not STILL with 0 in x alone", () -> {
            due("tell", moved(3, 0, 5, 0, 1).tell(4, 1), 0);
            due("look", moved(3, 0, 5, 0, 1).look(4), 4);
        });
        sentence("Terms: not STILL with 0 in y alone", () -> {
            due("tell", moved(3, 0, 5, -1, 0).tell(4, 1), 0);
            due("look", moved(3, 0, 5, -1, 0).look(4), 4);
        });
        sentence("Terms: not STILL by the least MOTION that can be", () ->
                due("1 by 999", moved(3, 0, 999, 1, 0).tell(4, 1), 0));
        sentence("Terms: STILL from first to last, if it was elsewhere between", () -> {
            StarPlates s = new StarPlates();
            anchored(s, 0, 500, 500);
            anchored(s, 10, 503, 500);
            anchored(s, 20, 500, 500);
            dueTell("gone and back", s, 4, 1, 1, 3, NONE);
        });
    }

    /** Frame and plate with anchors and two spots more that move so, in 6 years. */
    private static StarPlates twoMoved(int dx, int dy, int otherDx, int otherDy) {
        StarPlates s = new StarPlates();
        s.reach(6);
        anchored(s, 0, 500, 500, 700, 600);
        anchored(s, 6, 500 + dx, 500 + dy, 700 + otherDx, 600 + otherDy);
        due("all found", s.lay(0, 1, 0), 6);
        return s;
    }

    private static void dueTogether(StarPlates s, int ofFourth, int ofFifth) {
        due("of 4", s.tell(4, 3), ofFourth);
        due("of 5", s.tell(5, 3), ofFifth);
    }

    private static void together() {
        sentence("Terms: TOGETHER with MOTIONS alike", () -> dueTogether(twoMoved(3, -2, 3, -2), 5, 4));
        sentence("Terms: TOGETHER: STILL ones don't go", () -> {
            dueTogether(twoMoved(0, 0, 0, 0), NONE, NONE);
            due("of 0", twoMoved(0, 0, 0, 0).tell(0, 3), NONE);
        });
        sentence("Terms: TOGETHER: 0 in x or in y alone may be", () -> {
            dueTogether(twoMoved(0, 2, 0, 2), 5, 4);
            dueTogether(twoMoved(2, 0, 2, 0), 5, 4);
        });
        sentence("Terms: TOGETHER: alike in x alone is not alike", () -> dueTogether(twoMoved(3, 2, 3, 1), NONE, NONE));
        sentence("Terms: TOGETHER: alike in y alone is not alike", () -> dueTogether(twoMoved(3, 2, 1, 2), NONE, NONE));
        sentence("Terms: TOGETHER: the other way is not alike", () -> {
            dueTogether(twoMoved(3, 2, -3, -2), NONE, NONE);
            dueTogether(twoMoved(3, 2, 3, -2), NONE, NONE);
            dueTogether(twoMoved(3, 2, 2, 3), NONE, NONE);
        });
        sentence("Terms: TOGETHER: twice as fast is not alike", () -> dueTogether(twoMoved(2, 1, 4, 2), NONE, NONE));
        sentence("Terms: TOGETHER: alike as fractions over unlike YEARS", () -> {
            StarPlates s = new StarPlates();
            s.reach(6);
            anchored(s, 0, 500, 500, 700, 600);
            anchored(s, 6, 502, 498);
            anchored(s, 18, 706, 594);
            dueMotion("1 by 3", s, 4, 1, 3, -1, 3);
            dueTogether(s, 5, 4);
        });
        sentence("Terms: TOGETHER: as far over unlike YEARS is not alike", () -> {
            StarPlates s = new StarPlates();
            s.reach(6);
            anchored(s, 0, 500, 500, 700, 600);
            anchored(s, 6, 502, 498);
            anchored(s, 18, 702, 598);
            dueTogether(s, NONE, NONE);
        });
        sentence("13: the least other one", () -> {
            StarPlates s = new StarPlates();
            anchored(s, 0, 500, 500, 700, 600, 400, 700, 600, 250);
            anchored(s, 6, 502, 501, 700, 602, 402, 701, 602, 251);
            int[] want = {NONE, NONE, NONE, NONE, 6, NONE, 4, 4};
            for (int i = 0; i < 8; i++) {
                due("of " + i, s.tell(i, 3), want[i]);
            }
        });
        sentence("13: the least other one may be TRACK 0", () -> {
            StarPlates s = new StarPlates();
            put(s, 0, 500, 500, 100, 100, 300, 140, 920, 180, 140, 880, 700, 600);
            put(s, 6, 501, 500, 100, 100, 300, 140, 920, 180, 140, 880, 701, 600);
            due("of 0", s.tell(0, 3), 5);
            due("of 5", s.tell(5, 3), 0);
        });
        sentence("13: NONE: one without MOTION goes with none, and none with it", () -> {
            StarPlates s = twoMoved(3, -2, 3, -2);
            s.wipe(1, 5);
            dueTogether(s, NONE, NONE);
        });
        sentence("13: NONE: two without MOTION don't go TOGETHER", () -> {
            StarPlates s = twoMoved(3, -2, 3, -2);
            s.wipe(1, 5);
            s.wipe(1, 4);
            dueTogether(s, NONE, NONE);
        });
    }

    private static void dueForetold(String what, StarPlates s, int year, int x, int y) {
        due(what + ", x", s.foretell(4, year, 0), x);
        due(what + ", y", s.foretell(4, year, 1), y);
    }

    private static void foretellYears() {
        sentence("14: for the year 0", () -> dueForetold("ahead of the frame", moved(3, 100, 110, 1, -2), 0, 490, 520));
        sentence("14: for the year 2000", () -> dueForetold("2000", moved(3, 100, 110, 1, -2), 2000, 690, 120));
        sentence("14: for its first YEAR its place", () -> dueForetold("100", moved(3, 100, 107, 3, -2), 100, 500, 500));
        sentence("14: for its last YEAR its last place", () -> dueForetold("107", moved(3, 100, 107, 3, -2), 107, 503, 498));
        sentence("14: as far as it can come", () -> {
            dueForetold("by 50 a year", moved(50, 0, 1, 50, -50), 2000, 100500, -99500);
            dueForetold("by -50 a year", moved(50, 0, 1, -50, 50), 2000, -99500, 100500);
            dueForetold("back from the year 998", moved(50, 998, 999, 50, -50), 0, -49400, 50400);
        });
        sentence("14: without MOTION its place, for any year", () -> {
            for (int year : new int[] {0, 5, 1000, 2000}) {
                due("one plate, x", onePlate().foretell(1, year, 0), 300);
                due("one plate, y", onePlate().foretell(1, year, 1), 400);
                due("misses, x", sky().foretell(6, year, 0), 123);
                due("misses, y", sky().foretell(6, year, 1), 456);
            }
        });
        sentence("14: STILL its place, for any year", () -> {
            for (int year : new int[] {0, 5, 1000, 2000}) {
                dueForetold("still", moved(3, 3, 8, 0, 0), year, 500, 500);
            }
        });
    }

    private static void foretellRounds() {
        sentence("14: halfway the greater one, as it goes up", () -> {
            due("500.5", moved(3, 4, 8, 2, 0).foretell(4, 5, 0), 501);
            due("499.5", moved(3, 4, 8, 2, 0).foretell(4, 3, 0), 500);
        });
        sentence("14: halfway the greater one, as it goes down", () -> {
            due("499.5", moved(3, 4, 8, 0, -2).foretell(4, 5, 1), 500);
            due("500.5", moved(3, 4, 8, 0, -2).foretell(4, 3, 1), 501);
        });
        sentence("14: halfway the greater one, below 0 too", () -> {
            // 500 - (year - 4) / 2
            due("-0.5", moved(3, 4, 8, 0, -2).foretell(4, 1005, 1), 0);
            due("-1.5", moved(3, 4, 8, 0, -2).foretell(4, 1007, 1), -1);
            due("-397.5", moved(3, 4, 8, -2, 0).foretell(4, 1799, 0), -397);
        });
        sentence("14: less than half goes down, more goes up", () -> {
            int[] wantUp = {500, 500, 501, 501};
            int[] wantDown = {500, 500, 499, 499};
            for (int year = 0; year < 4; year++) {
                due("a third up a year, " + year, moved(3, 0, 3, 1, -1).foretell(4, year, 0), wantUp[year]);
                due("a third down a year, " + year, moved(3, 0, 3, 1, -1).foretell(4, year, 1), wantDown[year]);
            }
        });
        sentence("14: less than half goes down, more goes up, just beside it", () -> {
            // 500 + year / 999: half is between the years 499 and 500
            due("499 / 999", moved(3, 0, 999, 1, -1).foretell(4, 499, 0), 500);
            due("500 / 999", moved(3, 0, 999, 1, -1).foretell(4, 500, 0), 501);
            due("-499 / 999", moved(3, 0, 999, 1, -1).foretell(4, 499, 1), 500);
            due("-500 / 999", moved(3, 0, 999, 1, -1).foretell(4, 500, 1), 499);
        });
    }

    private static void foretellRefused() {
        sentence("14: NONE - 99999 for a year below 0", () -> {
            for (int year : new int[] {-1, -2000, Integer.MIN_VALUE}) {
                dueForetold("year " + year, sky(), year, NO_FORETOLD, NO_FORETOLD);
                due("without motion", onePlate().foretell(0, year, 0), NO_FORETOLD);
            }
        });
        sentence("14: NONE - 99999 for a year above 2000", () -> {
            for (int year : new int[] {2001, 9999, Integer.MAX_VALUE}) {
                dueForetold("year " + year, sky(), year, NO_FORETOLD, NO_FORETOLD);
                due("without motion", onePlate().foretell(0, year, 0), NO_FORETOLD);
            }
        });
        sentence("14: NONE - 99999 for another what", () -> {
            for (int what : new int[] {-1, 2, 3, Integer.MIN_VALUE, Integer.MAX_VALUE}) {
                due("what " + what, sky().foretell(4, 5, what), NO_FORETOLD);
                due("what " + what + " without motion", sky().foretell(6, 5, what), NO_FORETOLD);
            }
        });
        sentence("14: NONE - 99999 for a TRACK below 0", () -> {
            due("-1", sky().foretell(-1, 5, 0), NO_FORETOLD);
            due("the least number", sky().foretell(Integer.MIN_VALUE, 5, 1), NO_FORETOLD);
        });
        sentence("14: NONE - 99999 for a TRACK past the last", () -> {
            for (int i : new int[] {7, 8, Integer.MAX_VALUE}) {
                due("track " + i, sky().foretell(i, 5, 0), NO_FORETOLD);
            }
            due("past the eighth", eightTracks().foretell(8, 5, 0), NO_FORETOLD);
            due("the frame is without spots", emptyFrame().foretell(0, 5, 0), NO_FORETOLD);
        });
    }

    /** Five plates of eight spots; spots 4 to 7 move by 1, 2, 3, 4 from plate to plate. */
    private static StarPlates fullHouse() {
        StarPlates s = new StarPlates();
        s.reach(16);
        for (int p = 0; p < 5; p++) {
            anchored(s, 900 - p, 500 - p, 500, 600 - 2 * p, 300, 700, 700 - 3 * p, 450, 820 + 4 * p);
        }
        return s;
    }

    private static void full() {
        sentence("Terms: 5 PLATES of 8 SPOTS: every TRACK over all of them", () -> {
            StarPlates s = fullHouse();
            due("frame", s.look(2), 4);
            due("tracks", s.look(3), 8);
            due("still ones", s.look(4), 4);
            due("misses", s.look(5), 0);
            for (int i = 0; i < 8; i++) {
                dueTrack(s, i, i, i, i, i, i);
                due("spots of " + i, s.tell(i, 2), 5);
                due("steady " + i, s.tell(i, 0), 1);
            }
            dueMotion("1", s, 4, 1, 1, 0, 1);
            dueMotion("2", s, 5, 2, 1, 0, 1);
            dueMotion("3", s, 6, 0, 1, 3, 1);
            dueMotion("-4", s, 7, 0, 1, -4, 1);
        });
        sentence("Terms: 5 PLATES of 8 SPOTS: REACH may become another", () -> {
            StarPlates s = fullHouse();
            due("misses at 16", s.look(5), 0);
            due("reach(15)", s.reach(15), true);
            due("misses at 15", s.look(5), 1);
            due("reach(0)", s.reach(0), true);
            due("misses at 0", s.look(5), 16);
            due("reach(16)", s.reach(16), true);
            due("misses at 16 again", s.look(5), 0);
        });
        sentence("Terms: 5 PLATES of 8 SPOTS: a SPOT of the last may go and come", () -> {
            StarPlates s = fullHouse();
            due("tracks", s.look(3), 8);
            due("wipe(4, 7)", s.wipe(4, 7), true);
            due("tracks with one less", s.look(3), 7);
            due("spot(4, 450, 836)", s.spot(4, 450, 836), 7);
            dueTrack(s, 7, 7, 7, 7, 7, 7);
            due("wipe(0, 7)", s.wipe(0, 7), true);
            due("misses", s.look(5), 1);
        });
    }

    private static void changes() {
        sentence("10 to 14: as an earlier PLATE comes, whatever was asked before", () -> dueAlike("frame", () -> {
            StarPlates s = sky();
            askAround(s);
            put(s, 0, 100, 100, 900, 120, 130, 900, 501, 499);
            return s;
        }, () -> {
            StarPlates s = sky();
            put(s, 0, 100, 100, 900, 120, 130, 900, 501, 499);
            return s;
        }));
        sentence("10 to 14: as a later PLATE comes, whatever was asked before", () -> {
            StarPlates s = sky();
            askAround(s);
            s.plate(999);
            due("misses", s.look(5), 4 + 7);
            due("a miss", s.track(0, 3), NONE);
        });
        sentence("10 to 14: as REACH becomes another, whatever was asked before", () -> {
            StarPlates s = moved(3, 0, 10, 3, 0);
            due("spots at 3", s.tell(4, 2), 2);
            s.reach(2);
            dueTell("at 2", s, 4, NONE, NONE, 1, NONE);
            due("misses at 2", s.look(5), 1);
            s.reach(3);
            dueTell("at 3", s, 4, 1, 0, 2, NONE);
        });
    }
}
