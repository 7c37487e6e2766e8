/** Each promise of the document by runs whose answers were worked out by hand. */
public final class PromisesTest extends Checks {
    public static void main(String[] args) {
        run(PromisesTest::newObject, PromisesTest::plate, PromisesTest::spot, PromisesTest::wipe,
                PromisesTest::reach, PromisesTest::look, PromisesTest::of, PromisesTest::layTurnsAndStretches,
                PromisesTest::layChoice, PromisesTest::layNone, PromisesTest::pairs, PromisesTest::track,
                PromisesTest::place, PromisesTest::motion, PromisesTest::tellSteady, PromisesTest::tellRest,
                PromisesTest::foretell, PromisesTest::slip, PromisesTest::slipOrder,
                PromisesTest::changesAreSeen);
    }

    private static void newObject() {
        StarPlates s = new StarPlates();
        due("NONE", StarPlates.NONE, -1);
        int[] want = {0, 3, -1, 0, 0, 0, -1};
        for (int what = 0; what < want.length; what++) {
            due("new look " + what, s.look(what), want[what]);
        }
        due("new of", s.of(0, 0), -1);
        due("new spot", s.spot(0, 1, 1), -1);
        due("new wipe", s.wipe(0, 0), false);
        due("new lay", s.lay(0, 1, 0), NO_PLACE);
        due("new pair", s.pair(0, 1, 0), -1);
        due("new track", s.track(0, 0), -1);
        due("new place", s.place(0, 0, 0), NO_PLACE);
        due("new motion", s.motion(0, 0), NO_PLACE);
        due("new tell", s.tell(0, 2), -1);
        due("new foretell", s.foretell(0, 0, 0), NO_FORETOLD);
        due("new slip", s.slip(0, 0, 0), -1);
        due("new slip of none", s.slip(-1, 0, 0), -1);
    }

    private static void plate() {
        StarPlates s = new StarPlates();
        due("year -1", s.plate(-1), -1);
        due("year 1000", s.plate(1000), -1);
        due("year 999", s.plate(999), 0);
        due("year 0", s.plate(0), 1);
        due("year 0 again", s.plate(0), -1);
        due("year 999 again", s.plate(999), -1);
        due("year 500", s.plate(500), 2);
        due("year 501", s.plate(501), 3);
        due("plates", s.look(0), 4);
        due("year 502", s.plate(502), 4);
        due("a sixth", s.plate(503), -1);
        due("plates at last", s.look(0), 5);
        due("year of the last", s.of(4, 0), 502);
        for (int year : WRONG) {
            due("wrong year " + year, new StarPlates().plate(year), -1);
        }
    }

    private static void spot() {
        StarPlates s = new StarPlates();
        s.plate(1);
        s.plate(2);
        due("corner", s.spot(0, 0, 0), 0);
        due("far corner", s.spot(0, 999, 999), 1);
        due("taken", s.spot(0, 0, 0), -1);
        due("taken on another plate only", s.spot(1, 0, 0), 0);
        due("x the same", s.spot(0, 0, 999), 2);
        due("y the same", s.spot(0, 999, 0), 3);
        due("x 1000", s.spot(0, 1000, 5), -1);
        due("y 1000", s.spot(0, 5, 1000), -1);
        due("plate 2", s.spot(2, 5, 5), -1);
        for (int bad : WRONG) {
            due("wrong plate", s.spot(bad, 5, 5), -1);
            due("wrong x", s.spot(0, bad, 5), -1);
            due("wrong y", s.spot(0, 5, bad), -1);
        }
        for (int n = 4; n < 8; n++) {
            due("spot " + n, s.spot(0, n, 7), n);
        }
        due("a ninth", s.spot(0, 8, 7), -1);
        due("spots", s.of(0, 1), 8);
        due("room on the other plate", s.spot(1, 8, 7), 1);
    }

    private static void wipe() {
        StarPlates s = new StarPlates();
        put(s, 1, 10, 11, 20, 21, 30, 31);
        due("wipe 3", s.wipe(0, 3), false);
        due("wipe of plate 1", s.wipe(1, 0), false);
        for (int bad : WRONG) {
            due("wipe wrong spot", s.wipe(0, bad), false);
            due("wipe wrong plate", s.wipe(bad, 0), false);
        }
        due("wipe 1", s.wipe(0, 1), true);
        due("two are left", s.of(0, 1), 2);
        due("x of 0", s.of(0, 10), 10);
        due("x of 1", s.of(0, 12), 30);
        due("y of 1", s.of(0, 13), 31);
        due("x of 2", s.of(0, 14), -1);
        due("the place is free again", s.spot(0, 20, 21), 2);
        due("wipe the last", s.wipe(0, 2), true);
        due("wipe the first", s.wipe(0, 0), true);
        due("wipe the only one", s.wipe(0, 0), true);
        due("wipe none", s.wipe(0, 0), false);
        StarPlates full = new StarPlates();
        put(full, 1, 0, 0, 1, 0, 2, 0, 3, 0, 4, 0, 5, 0, 6, 0, 7, 0);
        due("wipe of eight", full.wipe(0, 0), true);
        due("room again", full.spot(0, 9, 9), 7);
        due("moved up", full.of(0, 10), 1);
    }

    private static void reach() {
        StarPlates s = new StarPlates();
        for (int bad : WRONG) {
            due("reach " + bad, s.reach(bad), false);
        }
        due("reach 51", s.reach(51), false);
        due("as at first", s.look(1), 3);
        due("reach 50", s.reach(50), true);
        due("it is 50", s.look(1), 50);
        due("reach -1", s.reach(-1), false);
        due("it stays 50", s.look(1), 50);
        due("reach 0", s.reach(0), true);
        due("it is 0", s.look(1), 0);
        put(s, 1, 0, 0, 100, 0);
        put(s, 2, 0, 0, 102, 0);
        due("pairs at reach 0", s.lay(0, 1, 0), 1);
        due("reach 1", s.reach(1), true);
        due("pairs at reach 1", s.lay(0, 1, 0), 1);
        due("reach 2", s.reach(2), true);
        due("pairs at reach 2", s.lay(0, 1, 0), 2);
    }

    private static void look() {
        StarPlates s = new StarPlates();
        put(s, 50, 100, 100, 300, 100, 100, 400);
        due("frame alone", s.look(2), 0);
        due("tracks of one plate", s.look(3), 3);
        due("without motion none is still", s.look(4), 0);
        due("no misses without other plates", s.look(5), 0);
        s.plate(60);
        due("a plate without spots is missed by all", s.look(5), 3);
        s.spot(1, 100, 100);
        s.spot(1, 300, 100);
        due("misses", s.look(5), 1);
        due("still", s.look(4), 2);
        s.plate(10);
        due("a new frame", s.look(2), 2);
        due("tracks of a frame without spots", s.look(3), 0);
        due("its misses", s.look(5), 0);
        due("its still ones", s.look(4), 0);
        s.spot(2, 100, 100);
        due("one track", s.look(3), 1);
        due("none missed", s.look(5), 0);
        for (int bad : WRONG) {
            due("look wrong", s.look(bad), -1);
        }
        due("look 6", s.look(6), -1);
    }

    private static void of() {
        StarPlates s = new StarPlates();
        put(s, 77, 1, 2, 3, 4, 5, 6, 7, 8, 9, 10, 11, 12, 13, 14, 15, 16);
        due("year", s.of(0, 0), 77);
        due("spots", s.of(0, 1), 8);
        for (int n = 0; n < 16; n++) {
            due("of 0, " + (10 + n), s.of(0, 10 + n), n + 1);
        }
        due("past the last", s.of(0, 26), -1);
        for (int what = 2; what < 10; what++) {
            due("of 0, " + what, s.of(0, what), -1);
        }
        for (int bad : WRONG) {
            due("of wrong", s.of(0, bad), -1);
            due("of wrong plate", s.of(bad, 0), -1);
        }
        due("no plate 1", s.of(1, 0), -1);
        s.plate(78);
        due("no spots", s.of(1, 1), 0);
        due("no spot 0", s.of(1, 10), -1);
        due("nor its y", s.of(1, 11), -1);
    }

    private static void layTurnsAndStretches() {
        StarPlates s = new StarPlates();
        put(s, 10, 100, 100, 110, 100, 100, 120);
        put(s, 20, 500, 500, 500, 490, 520, 500);
        put(s, 30, 500, 500, 490, 500, 500, 480);
        put(s, 40, 500, 500, 500, 510, 480, 500);
        put(s, 50, 500, 500, 510, 500, 500, 520);
        dueLay("turn 1", s, 0, 1, 3, 0, 1, 1, 600, -400, NO_PLACE);
        dueLay("turn 2", s, 0, 2, 3, 0, 2, 1, 600, 600, NO_PLACE);
        dueLay("turn 3", s, 0, 3, 3, 0, 3, 1, -400, 600, NO_PLACE);
        dueLay("turn 0", s, 0, 4, 3, 0, 0, 1, -400, -400, NO_PLACE);
        dueLay("turned back", s, 1, 0, 3, 0, 3, 1, 400, 600, NO_PLACE);
        duePairs("turn 1", s, 0, 1, 0, 1, 2, -1);

        StarPlates t = new StarPlates();
        put(t, 10, 100, 100, 160, 100, 100, 220);
        put(t, 20, 500, 500, 530, 500, 500, 560);
        put(t, 30, 500, 500, 520, 500, 500, 540);
        put(t, 40, 500, 500, 500, 480, 540, 500);
        dueLay("stretch 2", t, 0, 1, 3, 0, 0, 2, -900, -900);
        dueLay("stretch 3", t, 0, 2, 3, 0, 0, 3, -1400, -1400);
        dueLay("turn 1, stretch 3", t, 0, 3, 3, 0, 1, 3, 1600, -1400);
        due("a stretch makes nothing less", t.lay(1, 0, 0), 2);
    }

    private static void layChoice() {
        StarPlates s = new StarPlates();
        put(s, 10, 10, 500, 10, 20, 700, 0);
        put(s, 20, 0, 0);
        dueLay("least shift in x, then in y", s, 0, 1, 1, 0, 0, 1, 10, 20);
        duePairs("least shift", s, 0, 1, 1);
        put(s, 30, 7, 9);
        dueLay("least turn and stretch", s, 1, 2, 1, 0, 0, 1, -7, -9);

        StarPlates most = new StarPlates();
        put(most, 10, 0, 0, 100, 0, 200, 0);
        put(most, 20, 0, 0, 101, 0, 202, 0);
        dueLay("most pairs, then the least sum", most, 0, 1, 3, 2, 0, 1, -1, 0);

        StarPlates sum = new StarPlates();
        put(sum, 10, 100, 100, 200, 100, 100, 201, 200, 201);
        put(sum, 20, 100, 100, 201, 100, 100, 200, 201, 200);
        dueLay("the least sum ahead of the least turn", sum, 0, 1, 4, 0, 1, 1, 300, 0);

        StarPlates upon = new StarPlates();
        upon.reach(2);
        put(upon, 10, 0, 0, 100, 0);
        put(upon, 20, 0, 0, 103, 0);
        dueLay("only lays that bring a spot right upon one", upon, 0, 1, 1, 0, 0, 1, -103, 0);
    }

    private static void layNone() {
        StarPlates s = new StarPlates();
        put(s, 10, 1, 1);
        s.plate(20);
        due("b has no spots", s.lay(0, 1, 0), NO_PLACE);
        due("a has no spots", s.lay(1, 0, 0), NO_PLACE);
        s.spot(1, 2, 2);
        due("there is one", s.lay(0, 1, 0), 1);
        due("a is b", s.lay(1, 1, 0), NO_PLACE);
        due("no plate 2", s.lay(0, 2, 0), NO_PLACE);
        due("what 6", s.lay(0, 1, 6), NO_PLACE);
        due("pair", s.pair(0, 1, 0), 0);
        due("pair, a is b", s.pair(1, 1, 0), -1);
        due("pair, no spot 1", s.pair(0, 1, 1), -1);
        for (int bad : WRONG) {
            due("lay wrong a", s.lay(bad, 1, 0), NO_PLACE);
            due("lay wrong b", s.lay(0, bad, 0), NO_PLACE);
            due("lay wrong what", s.lay(0, 1, bad), NO_PLACE);
            due("pair wrong a", s.pair(bad, 1, 0), -1);
            due("pair wrong b", s.pair(0, bad, 0), -1);
            due("pair wrong j", s.pair(0, 1, bad), -1);
        }
        s.wipe(0, 0);
        due("wiped, there is none", s.lay(0, 1, 0), NO_PLACE);
        due("nor a pair", s.pair(0, 1, 0), -1);
    }

    private static void pairs() {
        StarPlates s = new StarPlates();
        put(s, 10, 500, 500, 700, 900, 900, 600, 100, 100, 103, 100);
        put(s, 20, 500, 500, 700, 900, 900, 600, 101, 100, 98, 100);
        dueLay("as many as can be, not the nearest first", s, 0, 1, 5, 4, 0, 1, 0, 0);
        duePairs("as many as can be", s, 0, 1, 0, 1, 2, 4, 3);

        StarPlates near = new StarPlates();
        put(near, 10, 500, 500, 700, 900, 900, 600, 102, 100, 100, 100);
        put(near, 20, 500, 500, 700, 900, 900, 600, 100, 101, 102, 101);
        dueLay("the least sum", near, 0, 1, 5, 2, 0, 1, 0, 0);
        duePairs("the least sum", near, 0, 1, 0, 1, 2, 4, 3);

        StarPlates order = new StarPlates();
        put(order, 10, 500, 500, 700, 900, 900, 600, 102, 100, 100, 100);
        put(order, 20, 500, 500, 700, 900, 900, 600, 101, 100, 101, 101);
        dueLay("the lesser first", order, 0, 1, 5, 2, 0, 1, 0, 0);
        duePairs("the lesser first", order, 0, 1, 0, 1, 2, 3, 4);

        StarPlates none = new StarPlates();
        put(none, 10, 500, 500, 700, 900, 900, 600, 100, 100);
        put(none, 20, 500, 500, 700, 900, 900, 600, 99, 100, 101, 100);
        dueLay("none last", none, 0, 1, 4, 1, 0, 1, 0, 0);
        duePairs("none last", none, 0, 1, 0, 1, 2, 3, -1);

        StarPlates moved = new StarPlates();
        put(moved, 10, 500, 500, 700, 900, 900, 600, 100, 100, 104, 100, 102, 104);
        put(moved, 20, 500, 500, 700, 900, 900, 600, 102, 102, 103, 102, 98, 98);
        dueLay("the first of two orders", moved, 0, 1, 6, 6, 0, 1, 0, 0);
        duePairs("the first of two orders", moved, 0, 1, 0, 1, 2, 4, 5, 3);

        StarPlates wide = new StarPlates();
        wide.reach(50);
        put(wide, 10, 500, 500, 700, 900, 900, 600, 100, 100, 160, 100);
        put(wide, 20, 500, 500, 700, 900, 900, 600, 110, 100, 50, 100);
        dueLay("one pair more at any cost", wide, 0, 1, 5, 100, 0, 1, 0, 0);
        duePairs("one pair more at any cost", wide, 0, 1, 0, 1, 2, 4, 3);

        StarPlates edge = new StarPlates();
        put(edge, 10, 500, 500, 700, 900, 900, 600, 100, 100);
        put(edge, 20, 500, 500, 700, 900, 900, 600, 103, 97);
        put(edge, 30, 500, 500, 700, 900, 900, 600, 104, 100);
        put(edge, 40, 500, 500, 700, 900, 900, 600, 100, 96);
        duePairs("at reach", edge, 0, 1, 0, 1, 2, 3);
        duePairs("past reach in x", edge, 0, 2, 0, 1, 2, -1);
        duePairs("past reach in y", edge, 0, 3, 0, 1, 2, -1);
    }

    private static StarPlates threePlates() {
        StarPlates s = new StarPlates();
        s.reach(5);
        put(s, 20, 100, 100, 900, 120, 130, 900, 870, 940, 504, 500);
        put(s, 0, 870, 940, 100, 100, 900, 120, 130, 900, 500, 500, 600, 300);
        put(s, 10, 900, 120, 100, 100, 870, 940, 130, 900, 602, 300);
        return s;
    }

    private static void track() {
        StarPlates s = threePlates();
        due("frame", s.look(2), 1);
        int[][] want = {{3, 0, 2}, {0, 1, 1}, {1, 2, 0}, {2, 3, 3}, {4, 4, -1}, {-1, 5, 4}};
        for (int i = 0; i < want.length; i++) {
            for (int p = 0; p < 3; p++) {
                due("track " + i + ", " + p, s.track(i, p), want[i][p]);
            }
        }
        due("no track 6", s.track(6, 1), -1);
        due("no plate 3", s.track(0, 3), -1);
        for (int bad : WRONG) {
            due("wrong track", s.track(bad, 0), -1);
            due("wrong plate", s.track(0, bad), -1);
        }
        due("misses", s.look(5), 2);
    }

    private static void place() {
        StarPlates s = threePlates();
        due("x on the frame", s.place(4, 1, 0), 500);
        due("x on the last", s.place(4, 0, 0), 504);
        due("y on the last", s.place(4, 0, 1), 500);
        due("a miss", s.place(4, 2, 0), NO_PLACE);
        due("what 2", s.place(4, 0, 2), NO_PLACE);
        due("no track", s.place(6, 0, 0), NO_PLACE);
        due("no plate", s.place(0, 3, 0), NO_PLACE);
        for (int bad : WRONG) {
            due("wrong track", s.place(bad, 0, 0), NO_PLACE);
            due("wrong plate", s.place(0, bad, 0), NO_PLACE);
            due("wrong what", s.place(0, 0, bad), NO_PLACE);
        }
        StarPlates turned = new StarPlates();
        put(turned, 1, 100, 100, 130, 100, 100, 160, 400, 410);
        put(turned, 2, 500, 500, 500, 490, 520, 500, 603, 400);
        dueLay("turned and stretched", turned, 0, 1, 4, 1, 1, 3, 1600, -1400);
        due("as it comes, x", turned.place(3, 1, 0), 400);
        due("as it comes, y", turned.place(3, 1, 1), 409);
        StarPlates below = new StarPlates();
        put(below, 1, 0, 0, 500, 300, 200, 900);
        put(below, 2, 10, 11, 511, 310, 211, 910);
        due("below 0", below.place(0, 1, 0), -1);
        due("above 0", below.place(0, 1, 1), 1);
    }

    private static void motion() {
        StarPlates s = threePlates();
        int[][] want = {{0, 1, 0, 1}, {0, 1, 0, 1}, {0, 1, 0, 1}, {0, 1, 0, 1}, {1, 5, 0, 1}, {1, 5, 0, 1}};
        for (int i = 0; i < want.length; i++) {
            for (int what = 0; what < 4; what++) {
                due("motion " + i + ", " + what, s.motion(i, what), want[i][what]);
            }
        }
        due("what 4", s.motion(4, 4), NO_PLACE);
        due("no track", s.motion(6, 0), NO_PLACE);
        for (int bad : WRONG) {
            due("wrong track", s.motion(bad, 0), NO_PLACE);
            due("wrong what", s.motion(0, bad), NO_PLACE);
        }
        StarPlates back = new StarPlates();
        back.reach(6);
        put(back, 3, 100, 100, 900, 120, 130, 900, 870, 940, 500, 500);
        put(back, 18, 100, 100, 900, 120, 130, 900, 870, 940, 494, 505);
        int[] parts = {-2, 5, 1, 3};
        for (int what = 0; what < 4; what++) {
            due("without a common part " + what, back.motion(4, what), parts[what]);
        }
        StarPlates mixed = new StarPlates();
        mixed.reach(5);
        put(mixed, 20, 100, 100, 900, 120, 130, 900, 870, 940, 504, 500);
        put(mixed, 0, 100, 100, 900, 120, 130, 900, 870, 940, 500, 500);
        put(mixed, 10, 100, 100, 900, 120, 130, 900, 870, 940, 501, 500);
        due("to the last by years, above", mixed.motion(4, 0), 1);
        due("to the last by years, below", mixed.motion(4, 1), 5);
        StarPlates one = new StarPlates();
        put(one, 3, 100, 100);
        due("one spot has no motion", one.motion(0, 0), NO_PLACE);
        one.plate(5);
        due("nor has one with misses alone", one.motion(0, 1), NO_PLACE);
    }

    /** A track from 500 (year 0) by middle to last (year 20) in x, or in y, at reach 5. */
    private static int steady(int year, int middle, int last, boolean inX) {
        StarPlates s = new StarPlates();
        s.reach(5);
        int[] at = {500, middle, last};
        int[] years = {0, year, 20};
        for (int p = 0; p < 3; p++) {
            put(s, years[p], 100, 100, 900, 120, 130, 900, 870, 940,
                    inX ? at[p] : 500, inX ? 500 : at[p]);
        }
        due("all found", s.tell(4, 2), 3);
        return s.tell(4, 0);
    }

    private static void tellSteady() {
        for (int axis = 0; axis < 2; axis++) {
            due("off by 5", steady(10, 497, 504, axis == 0), 1);
            due("off by 6", steady(10, 496, 504, axis == 0), 0);
            due("off by 4.5", steady(10, 498, 505, axis == 0), 1);
            due("off by 5.5", steady(10, 497, 505, axis == 0), 0);
            due("off by 5.5 the other way", steady(10, 503, 495, axis == 0), 0);
            due("off by a twentieth more than 5", steady(7, 496, 503, axis == 0), 0);
            due("off by a twentieth less than 5", steady(13, 497, 503, axis == 0), 1);
            due("gone and back", steady(10, 505, 500, axis == 0), 1);
        }
    }

    private static void tellRest() {
        StarPlates s = threePlates();
        due("together over unlike years", s.tell(4, 3), 5);
        due("and the other way", s.tell(5, 3), 4);
        due("still ones don't go together", s.tell(0, 3), -1);
        due("still", s.tell(0, 1), 1);
        due("not still", s.tell(4, 1), 0);
        due("spots", s.tell(0, 2), 3);
        due("spots of one with a miss", s.tell(4, 2), 2);
        due("what 4", s.tell(0, 4), -1);
        due("no track 6", s.tell(6, 2), -1);
        for (int bad : WRONG) {
            due("wrong track", s.tell(bad, 2), -1);
            due("wrong what", s.tell(0, bad), -1);
        }
        StarPlates one = new StarPlates();
        put(one, 3, 100, 100, 300, 300);
        int[] want = {-1, -1, 1, -1};
        for (int what = 0; what < 4; what++) {
            due("without motion " + what, one.tell(0, what), want[what]);
        }
        StarPlates many = new StarPlates();
        put(many, 0, 100, 100, 900, 120, 130, 900, 870, 940, 500, 500, 600, 300, 300, 600, 700, 700);
        put(many, 8, 100, 100, 900, 120, 130, 900, 870, 940, 502, 501, 602, 299, 302, 601, 702, 701);
        due("the least other one", many.tell(4, 3), 6);
        due("y counts too", many.tell(5, 3), -1);
        due("the least other one of 6", many.tell(6, 3), 4);
        many.wipe(1, 4);
        due("one without motion goes with none", many.tell(4, 3), -1);
        due("nor does another one go with it", many.tell(6, 3), 7);
        due("the least other one of 7", many.tell(7, 3), 6);
    }

    private static void foretell() {
        StarPlates s = new StarPlates();
        put(s, 4, 100, 100, 900, 120, 130, 900, 870, 940, 500, 600, 700, 400);
        put(s, 8, 100, 100, 900, 120, 130, 900, 870, 940, 502, 598);
        due("x in its first year", s.foretell(4, 4, 0), 500);
        due("x in its last year", s.foretell(4, 8, 0), 502);
        due("y in its last year", s.foretell(4, 8, 1), 598);
        due("halfway up: the greater one", s.foretell(4, 5, 0), 501);
        due("halfway down: the greater one", s.foretell(4, 5, 1), 600);
        due("before: the greater one", s.foretell(4, 3, 0), 500);
        due("before in y", s.foretell(4, 3, 1), 601);
        due("year 0", s.foretell(4, 0, 0), 498);
        due("year 2000", s.foretell(4, 2000, 0), 1498);
        due("below 0", s.foretell(4, 2000, 1), -398);
        due("halfway below 0: the greater one", s.foretell(4, 1999, 1), -397);
        due("year 2001", s.foretell(4, 2001, 0), NO_FORETOLD);
        due("year -1", s.foretell(4, -1, 0), NO_FORETOLD);
        due("what 2", s.foretell(4, 4, 2), NO_FORETOLD);
        due("no track 6", s.foretell(6, 4, 0), NO_FORETOLD);
        due("without motion its place, x", s.foretell(5, 2000, 0), 700);
        due("without motion its place, y", s.foretell(5, 2000, 1), 400);
        due("without motion year 2001", s.foretell(5, 2001, 1), NO_FORETOLD);
        for (int bad : WRONG) {
            due("wrong track", s.foretell(bad, 4, 0), NO_FORETOLD);
            due("wrong year", s.foretell(4, bad, 0), NO_FORETOLD);
            due("wrong what", s.foretell(4, 4, bad), NO_FORETOLD);
        }
        StarPlates third = new StarPlates();
        put(third, 0, 100, 100, 900, 120, 130, 900, 500, 500);
        put(third, 3, 100, 100, 900, 120, 130, 900, 501, 499);
        due("a third up", third.foretell(3, 1, 0), 500);
        due("two thirds up", third.foretell(3, 2, 0), 501);
        due("a third down", third.foretell(3, 1, 1), 500);
        due("two thirds down", third.foretell(3, 2, 1), 499);
    }

    /** The frame and a plate with three spots alike, those of the frame and one of the plate more. */
    private static StarPlates slipped(int x, int y, int... free) {
        StarPlates s = new StarPlates();
        put(s, 40, 500, 500, 700, 110, 900, 800, x, y);
        put(s, 10, 500, 500, 700, 110, 900, 800);
        for (int n = 0; n + 1 < free.length; n += 2) {
            s.spot(1, free[n], free[n + 1]);
        }
        due("three pairs", s.lay(1, 0, 0), 3);
        return s;
    }

    private static void slip() {
        dueSlip("x, 0", slipped(213, 456, 123, 456), 0, 3, 1, 0, 3);
        dueSlip("x, 1", slipped(132, 456, 123, 456), 0, 3, 1, 1, 3);
        dueSlip("y, 0", slipped(123, 546, 123, 456), 0, 3, 2, 0, 3);
        dueSlip("y, 1", slipped(123, 465, 123, 456), 0, 3, 2, 1, 3);
        dueSlip("digits apart", slipped(321, 456, 123, 456), 0, 3, -1, -1, -1);
        dueSlip("both x and y", slipped(132, 465, 123, 456), 0, 3, -1, -1, -1);
        dueSlip("nought ahead", slipped(50, 456, 500, 459, 5, 456), 0, 3, 1, 0, 3);
        dueSlip("nought ahead, 1", slipped(50, 456, 5, 456), 0, 3, 1, 1, 3);
        dueSlip("within reach", slipped(132, 456, 126, 453), 0, 3, 1, 1, 3);
        dueSlip("past reach", slipped(132, 456, 127, 456), 0, 3, -1, -1, -1);
        dueSlip("onto a spot in a pair", slipped(50, 500), 0, 3, -1, -1, -1);

        StarPlates s = slipped(132, 456, 123, 456);
        dueSlip("a spot in a pair", s, 0, 0, -1, -1, -1);
        dueSlip("a spot in a pair that would fit", slipped(1, 1, 50, 500), 0, 0, -1, -1, -1);
        dueSlip("of the frame", s, 1, 3, -1, -1, -1);
        due("what 3", s.slip(0, 3, 3), -1);
        due("no spot 4", s.slip(0, 4, 0), -1);
        due("no plate 2", s.slip(2, 0, 0), -1);
        for (int bad : WRONG) {
            due("wrong plate", s.slip(bad, 3, 0), -1);
            due("wrong spot", s.slip(0, bad, 0), -1);
            due("wrong what", s.slip(0, 3, bad), -1);
        }
        StarPlates bare = new StarPlates();
        put(bare, 40, 1, 1);
        bare.plate(10);
        dueSlip("a frame without spots", bare, 0, 0, -1, -1, -1);
    }

    private static void slipOrder() {
        dueSlip("x ahead of y", slipped(132, 465, 132, 456, 123, 465), 0, 3, 1, 1, 4);
        dueSlip("the first digit ahead", slipped(132, 465, 123, 465, 312, 465), 0, 3, 1, 0, 4);
        dueSlip("the lesser spot", slipped(132, 456, 124, 456, 123, 456), 0, 3, 1, 1, 3);
        dueSlip("y, the first digit ahead", slipped(132, 465, 132, 456, 132, 645), 0, 3, 2, 0, 4);

        // turned by 1 and stretched by 2: x, y comes to 1100 - 2 y, 2 x - 900
        StarPlates turned = new StarPlates();
        put(turned, 1, 100, 100, 120, 100, 100, 140, 800, 600);
        put(turned, 2, 500, 500, 500, 490, 520, 500, 570, 150);
        dueLay("turned", turned, 0, 1, 3, 0, 1, 2, 1100, -900);
        dueSlip("by the lay, 0", turned, 1, 3, 1, 0, 3);
        turned.wipe(1, 3);
        turned.spot(1, 705, 150);
        due("in no pair", turned.pair(0, 1, 3), -1);
        dueSlip("by the lay, 1", turned, 1, 3, 1, 1, 3);
    }

    private static void changesAreSeen() {
        StarPlates s = new StarPlates();
        put(s, 10, 100, 100, 300, 100, 100, 500);
        put(s, 20, 100, 100, 300, 100, 101, 501);
        due("pairs", s.lay(0, 1, 0), 3);
        due("still", s.look(4), 2);
        s.reach(0);
        due("reach is seen by lay", s.lay(0, 1, 0), 2);
        due("reach is seen by look", s.look(5), 1);
        s.spot(1, 100, 500);
        due("a spot is seen by lay", s.lay(0, 1, 0), 3);
        due("a spot is seen by track", s.track(2, 1), 3);
        s.wipe(0, 0);
        due("wipe is seen by lay", s.lay(0, 1, 0), 2);
        due("wipe is seen by the other lay", s.lay(1, 0, 0), 2);
        due("wipe is seen by track", s.track(1, 1), 3);
        s.plate(5);
        due("an earlier plate is the frame", s.look(3), 0);
        s.spot(2, 300, 100);
        due("its tracks are seen", s.tell(0, 2), 3);
        due("a frame's year is seen", s.motion(0, 1), 1);
        due("a failing spot changes nothing", s.spot(2, 300, 100), -1);
        due("still one track", s.look(3), 1);
    }
}
