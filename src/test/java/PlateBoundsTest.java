/** Promises 1 to 7, and what 'Terms' says of plates, spots and reach: a test for each boundary. */
public final class PlateBoundsTest extends Checks {
    public static void main(String[] args) {
        run(PlateBoundsTest::newObject, PlateBoundsTest::plateYears, PlateBoundsTest::plateNumbers,
                PlateBoundsTest::plateRefused, PlateBoundsTest::spotPlates, PlateBoundsTest::spotPlaces,
                PlateBoundsTest::spotTaken, PlateBoundsTest::spotFull, PlateBoundsTest::spotRefused,
                PlateBoundsTest::wipe, PlateBoundsTest::wipeRefused, PlateBoundsTest::reach,
                PlateBoundsTest::lookPlates, PlateBoundsTest::lookTracks, PlateBoundsTest::of,
                PlateBoundsTest::calls);
    }

    private static void newObject() {
        sentence("1: no PLATES", () -> due("look(0)", new StarPlates().look(0), 0));
        sentence("Terms: REACH is 3 at first", () -> due("look(1)", new StarPlates().look(1), 3));
        sentence("Constants: NONE is -1", () -> due("NONE", StarPlates.NONE, -1));
        sentence("1: no PLATES, so no call finds one", () -> {
            for (int p = 0; p < 5; p++) {
                StarPlates s = new StarPlates();
                due("of", s.of(p, 0), NONE);
                due("of, spots", s.of(p, 1), NONE);
                due("of, x", s.of(p, 10), NONE);
                due("spot", s.spot(p, 1, 1), NONE);
                due("wipe", s.wipe(p, 0), false);
                due("lay", s.lay(p, (p + 1) % 5, 0), NO_PLACE);
                due("pair", s.pair(p, (p + 1) % 5, 0), NONE);
                due("track", s.track(0, p), NONE);
                due("place", s.place(0, p, 0), NO_PLACE);
                due("slip", s.slip(p, 0, 0), NONE);
            }
        });
        sentence("1: no PLATES, so no TRACK", () -> {
            for (int i = 0; i < 8; i++) {
                StarPlates s = new StarPlates();
                due("motion", s.motion(i, 0), NO_PLACE);
                due("tell", s.tell(i, 2), NONE);
                due("foretell", s.foretell(i, 0, 0), NO_FORETOLD);
            }
        });
        sentence("1: no PLATES, whatever other objects have", () -> {
            StarPlates other = sky();
            StarPlates s = new StarPlates();
            due("look(0) of the new one", s.look(0), 0);
            due("look(1) of the new one", s.look(1), 3);
            s.plate(7);
            due("look(0) of the other one", other.look(0), 3);
            due("frame of the other one", other.look(2), 1);
            due("plates of the new one", s.look(0), 1);
        });
    }

    private static void plateYears() {
        sentence("2: a YEAR of 0 can be", () -> {
            StarPlates s = new StarPlates();
            due("plate(0)", s.plate(0), 0);
            due("of(0, 0)", s.of(0, 0), 0);
        });
        sentence("2: a YEAR of 999 can be", () -> {
            StarPlates s = new StarPlates();
            due("plate(999)", s.plate(999), 0);
            due("of(0, 0)", s.of(0, 0), 999);
        });
        sentence("2: a YEAR below 0 can't be", () -> {
            for (int year : new int[] {-1, -999, -1000, Integer.MIN_VALUE}) {
                due("plate(" + year + ")", new StarPlates().plate(year), NONE);
            }
        });
        sentence("2: a YEAR above 999 can't be", () -> {
            for (int year : new int[] {1000, 1001, 2000, 65536, Integer.MAX_VALUE}) {
                due("plate(" + year + ")", new StarPlates().plate(year), NONE);
            }
        });
        sentence("2: a YEAR that another PLATE has can't be", () -> {
            StarPlates s = new StarPlates();
            int[] years = {500, 0, 999, 1};
            for (int year : years) {
                s.plate(year);
            }
            for (int year : years) {
                due("plate(" + year + ") again", s.plate(year), NONE);
            }
            due("a year beside one", s.plate(501), 4);
        });
    }

    private static void plateNumbers() {
        sentence("2: its number, as they come", () -> {
            StarPlates s = new StarPlates();
            int[] years = {300, 100, 999, 0, 200};
            for (int p = 0; p < 5; p++) {
                due("plate(" + years[p] + ")", s.plate(years[p]), p);
                due("look(0)", s.look(0), p + 1);
            }
            for (int p = 0; p < 5; p++) {
                due("of(" + p + ", 0)", s.of(p, 0), years[p]);
            }
        });
        sentence("2: a fifth PLATE can be, NONE if there are 5", () -> {
            StarPlates s = fivePlates();
            due("look(0)", s.look(0), 5);
            for (int year : new int[] {0, 55, 999, 10, -1, 1000}) {
                due("a sixth of " + year, s.plate(year), NONE);
            }
            due("look(0) then", s.look(0), 5);
        });
        sentence("2: a new PLATE has no SPOTS", () -> {
            StarPlates s = sky();
            due("plate(30)", s.plate(30), 3);
            due("of(3, 1)", s.of(3, 1), 0);
            due("of(3, 10)", s.of(3, 10), NONE);
        });
    }

    private static StarPlates fivePlates() {
        StarPlates s = sky();
        put(s, 40, 100, 100, 900, 120);
        put(s, 30);
        return s;
    }

    private static void plateRefused() {
        sentence("2: NONE, and nothing is done, for a YEAR that can't be", () -> {
            for (int year : WRONG) {
                dueNothingDone("plate(" + year + ")", Checks::sky, s -> s.plate(year));
            }
            dueNothingDone("plate(1000)", Checks::sky, s -> s.plate(1000));
        });
        sentence("2: NONE, and nothing is done, for a YEAR that is there", () -> {
            dueNothingDone("the frame's", Checks::sky, s -> s.plate(1));
            dueNothingDone("another's", Checks::sky, s -> s.plate(20));
        });
        sentence("2: NONE, and nothing is done, if there are 5", () -> {
            dueNothingDone("an earlier year", PlateBoundsTest::fivePlates, s -> s.plate(0));
            dueNothingDone("a later year", PlateBoundsTest::fivePlates, s -> s.plate(999));
        });
        sentence("2: a refused PLATE takes no number", () -> {
            StarPlates s = new StarPlates();
            s.plate(5);
            s.plate(5);
            s.plate(-1);
            s.plate(1000);
            due("plate(6)", s.plate(6), 1);
            due("of(1, 0)", s.of(1, 0), 6);
        });
    }

    private static void spotPlates() {
        sentence("3: NONE for a PLATE below 0", () -> {
            StarPlates s = sky();
            due("spot(-1, 5, 5)", s.spot(-1, 5, 5), NONE);
            due("spot(-3, 5, 5)", s.spot(-3, 5, 5), NONE);
            due("the least number", s.spot(Integer.MIN_VALUE, 5, 5), NONE);
        });
        sentence("3: NONE for a PLATE past the last", () -> {
            StarPlates s = sky();
            for (int p : new int[] {3, 4, 5, 6, 8, Integer.MAX_VALUE}) {
                due("spot(" + p + ", 5, 5)", s.spot(p, 5, 5), NONE);
            }
            due("the last plate takes it", s.spot(2, 5, 5), 6);
        });
        sentence("3: NONE past the last of 5 PLATES", () -> {
            StarPlates s = fivePlates();
            due("spot(5, 5, 5)", s.spot(5, 5, 5), NONE);
            due("spot(4, 5, 5)", s.spot(4, 5, 5), 0);
        });
    }

    private static void spotPlaces() {
        sentence("3: x and y of 0 can be", () -> {
            StarPlates s = new StarPlates();
            s.plate(1);
            due("spot(0, 0, 0)", s.spot(0, 0, 0), 0);
            due("x", s.of(0, 10), 0);
            due("y", s.of(0, 11), 0);
        });
        sentence("3: x and y of 999 can be", () -> {
            StarPlates s = new StarPlates();
            s.plate(1);
            due("spot(0, 999, 999)", s.spot(0, 999, 999), 0);
            due("x", s.of(0, 10), 999);
            due("y", s.of(0, 11), 999);
        });
        sentence("3: x below 0 can't be", () -> dueNoPlace(true, -1, -999, Integer.MIN_VALUE));
        sentence("3: y below 0 can't be", () -> dueNoPlace(false, -1, -999, Integer.MIN_VALUE));
        sentence("3: x above 999 can't be", () -> dueNoPlace(true, 1000, 1001, 65536, Integer.MAX_VALUE));
        sentence("3: y above 999 can't be", () -> dueNoPlace(false, 1000, 1001, 65536, Integer.MAX_VALUE));
    }

    private static void dueNoPlace(boolean inX, int... places) {
        for (int place : places) {
            for (int other : new int[] {0, 500, 999}) {
                StarPlates s = new StarPlates();
                s.plate(1);
                int x = inX ? place : other;
                int y = inX ? other : place;
                due("spot(0, " + x + ", " + y + ")", s.spot(0, x, y), NONE);
                due("of(0, 1)", s.of(0, 1), 0);
            }
        }
    }

    private static void spotTaken() {
        sentence("3: NONE if there is one there", () -> {
            StarPlates s = new StarPlates();
            put(s, 1, 10, 20, 30, 40, 50, 60);
            due("where the first is", s.spot(0, 10, 20), NONE);
            due("where the second is", s.spot(0, 30, 40), NONE);
            due("where the last is", s.spot(0, 50, 60), NONE);
            due("of(0, 1)", s.of(0, 1), 3);
        });
        sentence("3: one that has x or y alone with another can be", () -> {
            StarPlates s = new StarPlates();
            put(s, 1, 10, 20);
            due("the same x", s.spot(0, 10, 21), 1);
            due("the same y", s.spot(0, 11, 20), 2);
            due("x and y exchanged", s.spot(0, 20, 10), 3);
        });
        sentence("3: one where another PLATE has one can be", () -> {
            StarPlates s = new StarPlates();
            put(s, 1, 10, 20);
            put(s, 2);
            due("on the other plate", s.spot(1, 10, 20), 0);
        });
        sentence("3: one where one was wiped can be", () -> {
            StarPlates s = new StarPlates();
            put(s, 1, 10, 20, 30, 40);
            s.wipe(0, 1);
            due("where the last was", s.spot(0, 30, 40), 1);
            s.wipe(0, 0);
            due("where the first was", s.spot(0, 10, 20), 1);
            due("where one still is", s.spot(0, 30, 40), NONE);
        });
    }

    private static StarPlates fullPlate() {
        StarPlates s = new StarPlates();
        put(s, 1, 10, 10, 20, 10, 30, 10, 40, 10, 50, 10, 60, 10, 70, 10, 80, 10);
        put(s, 2);
        return s;
    }

    private static void spotFull() {
        sentence("3: an eighth SPOT can be, NONE if there are 8", () -> {
            StarPlates s = fullPlate();
            due("of(0, 1)", s.of(0, 1), 8);
            due("a ninth", s.spot(0, 90, 10), NONE);
            due("one at 0, 0", s.spot(0, 0, 0), NONE);
            due("one where one is", s.spot(0, 80, 10), NONE);
            due("of(0, 1) then", s.of(0, 1), 8);
        });
        sentence("3: if there are 8 on one PLATE, another one has room", () -> {
            StarPlates s = fullPlate();
            due("spot(1, 90, 10)", s.spot(1, 90, 10), 0);
        });
        sentence("3: of 8 one is wiped, and there is room again", () -> {
            StarPlates s = fullPlate();
            s.wipe(0, 3);
            due("an eighth", s.spot(0, 90, 10), 7);
            due("a ninth", s.spot(0, 91, 10), NONE);
            due("its x", s.of(0, 24), 90);
        });
        sentence("3: 5 PLATES have 8 SPOTS each", () -> {
            StarPlates s = new StarPlates();
            for (int p = 0; p < 5; p++) {
                s.plate(p);
                for (int i = 0; i < 8; i++) {
                    due("spot " + i + " of plate " + p, s.spot(p, 100 * p + i, 7 * i), i);
                }
            }
            for (int p = 0; p < 5; p++) {
                due("a ninth of plate " + p, s.spot(p, 999, 999), NONE);
                for (int i = 0; i < 8; i++) {
                    due("x", s.of(p, 10 + 2 * i), 100 * p + i);
                    due("y", s.of(p, 11 + 2 * i), 7 * i);
                }
            }
        });
    }

    private static void spotRefused() {
        sentence("3: NONE, and nothing is done: none such", () -> {
            for (int p : WRONG) {
                dueNothingDone("spot(" + p + ", 5, 5)", Checks::sky, s -> s.spot(p, 5, 5));
            }
            dueNothingDone("spot(3, 5, 5)", Checks::sky, s -> s.spot(3, 5, 5));
        });
        sentence("3: a SPOT refused for want of a PLATE is not on it later", () -> {
            StarPlates s = sky();
            s.spot(3, 5, 5);
            s.plate(50);
            due("of(3, 1)", s.of(3, 1), 0);
            due("spot(3, 5, 5)", s.spot(3, 5, 5), 0);
        });
        sentence("3: NONE, and nothing is done: one can't be", () -> {
            for (int place : new int[] {-1, 1000}) {
                dueNothingDone("x " + place, Checks::sky, s -> s.spot(1, place, 5));
                dueNothingDone("y " + place, Checks::sky, s -> s.spot(1, 5, place));
            }
        });
        sentence("3: NONE, and nothing is done: there is one there", () -> {
            dueNothingDone("on the frame", Checks::sky, s -> s.spot(1, 500, 500));
            dueNothingDone("on another", Checks::sky, s -> s.spot(2, 132, 456));
        });
        sentence("3: NONE, and nothing is done: there are 8", () ->
                dueNothingDone("a ninth", PlateBoundsTest::fullPlate, s -> s.spot(0, 90, 10)));
    }

    private static void wipe() {
        sentence("4: the first goes, all behind it are one less", () -> {
            StarPlates s = fullPlate();
            due("wipe(0, 0)", s.wipe(0, 0), true);
            dueXs(s, 20, 30, 40, 50, 60, 70, 80);
        });
        sentence("4: one between goes, those behind it alone are one less", () -> {
            StarPlates s = fullPlate();
            due("wipe(0, 3)", s.wipe(0, 3), true);
            dueXs(s, 10, 20, 30, 50, 60, 70, 80);
        });
        sentence("4: the last of 8 goes, the others stay", () -> {
            StarPlates s = fullPlate();
            due("wipe(0, 7)", s.wipe(0, 7), true);
            dueXs(s, 10, 20, 30, 40, 50, 60, 70);
        });
        sentence("4: the only one goes, and the PLATE is without SPOTS", () -> {
            StarPlates s = new StarPlates();
            put(s, 1, 10, 20);
            due("wipe(0, 0)", s.wipe(0, 0), true);
            dueXs(s);
            due("plates", s.look(0), 1);
            due("year", s.of(0, 0), 1);
            due("tracks", s.look(3), 0);
        });
        sentence("4: y goes with x", () -> {
            StarPlates s = new StarPlates();
            put(s, 1, 10, 11, 20, 21, 30, 31);
            s.wipe(0, 1);
            due("y of 0", s.of(0, 11), 11);
            due("y of 1", s.of(0, 13), 31);
        });
        sentence("4: SPOTS of other PLATES stay", () -> {
            StarPlates s = sky();
            s.wipe(1, 0);
            due("plate 0", s.of(0, 1), 5);
            due("plate 1", s.of(1, 1), 6);
            due("plate 2", s.of(2, 1), 6);
            due("x on plate 0", s.of(0, 10), 100);
            due("x on plate 2", s.of(2, 10), 900);
        });
    }

    private static void dueXs(StarPlates s, int... want) {
        due("of(0, 1)", s.of(0, 1), want.length);
        for (int i = 0; i < want.length; i++) {
            due("x of " + i, s.of(0, 10 + 2 * i), want[i]);
        }
        due("x past the last", s.of(0, 10 + 2 * want.length), NONE);
    }

    private static void wipeRefused() {
        sentence("4: false for a SPOT below 0", () -> {
            StarPlates s = sky();
            due("wipe(1, -1)", s.wipe(1, -1), false);
            due("the least number", s.wipe(1, Integer.MIN_VALUE), false);
        });
        sentence("4: false for a SPOT past the last", () -> {
            StarPlates s = sky();
            for (int i : new int[] {5, 6, 7, 8, Integer.MAX_VALUE}) {
                due("wipe(0, " + i + ")", s.wipe(0, i), false);
            }
            due("wipe(0, 4)", s.wipe(0, 4), true);
            due("wipe(0, 4) again", s.wipe(0, 4), false);
        });
        sentence("4: false past the last of 8 SPOTS", () -> {
            StarPlates s = fullPlate();
            due("wipe(0, 8)", s.wipe(0, 8), false);
            due("wipe(0, 7)", s.wipe(0, 7), true);
            due("wipe(0, 7) again", s.wipe(0, 7), false);
        });
        sentence("4: false for a PLATE below 0", () -> {
            StarPlates s = sky();
            due("wipe(-1, 0)", s.wipe(-1, 0), false);
            due("wipe(-1, 8)", s.wipe(-1, 8), false);
            due("the least number", s.wipe(Integer.MIN_VALUE, 0), false);
        });
        sentence("4: false for a PLATE past the last", () -> {
            StarPlates s = sky();
            for (int p : new int[] {3, 4, 5, Integer.MAX_VALUE}) {
                due("wipe(" + p + ", 0)", s.wipe(p, 0), false);
            }
            due("past the last of 5", fivePlates().wipe(5, 0), false);
        });
        sentence("4: false on a PLATE without SPOTS", () -> due("wipe(1, 0)", fullPlate().wipe(1, 0), false));
        sentence("4: false, and nothing has gone", () -> {
            for (int bad : WRONG) {
                dueNothingDone("spot " + bad, Checks::sky, s -> s.wipe(1, bad));
                dueNothingDone("plate " + bad, Checks::sky, s -> s.wipe(bad, 0));
            }
            dueNothingDone("past the last spot", Checks::sky, s -> s.wipe(1, 7));
            dueNothingDone("past the last plate", Checks::sky, s -> s.wipe(3, 0));
        });
    }

    private static void reach() {
        sentence("5: REACH of 0 can be", () -> dueReach(0));
        sentence("5: REACH of 50 can be", () -> dueReach(50));
        sentence("5: the same REACH again can be", () -> {
            StarPlates s = new StarPlates();
            due("reach(3)", s.reach(3), true);
            due("reach(3) again", s.reach(3), true);
            due("look(1)", s.look(1), 3);
        });
        sentence("5: REACH below 0 can't be", () -> {
            for (int r : new int[] {-1, -50, Integer.MIN_VALUE}) {
                due("reach(" + r + ")", new StarPlates().reach(r), false);
            }
        });
        sentence("5: REACH above 50 can't be", () -> {
            for (int r : new int[] {51, 52, 100, 256, 65536, Integer.MAX_VALUE}) {
                due("reach(" + r + ")", new StarPlates().reach(r), false);
            }
        });
        sentence("5: false, and nothing is done", () -> {
            for (int r : new int[] {-1, 51, Integer.MIN_VALUE, Integer.MAX_VALUE}) {
                dueNothingDone("reach(" + r + ")", Checks::sky, s -> s.reach(r));
            }
        });
        sentence("5: REACH set ahead of the PLATES holds for them", () -> {
            StarPlates s = new StarPlates();
            s.reach(0);
            anchored(s, 1, 500, 500);
            anchored(s, 2, 501, 500);
            due("pairs at 0", s.lay(0, 1, 0), 4);
            s.reach(1);
            due("pairs at 1", s.lay(0, 1, 0), 5);
        });
    }

    private static void dueReach(int r) {
        StarPlates s = new StarPlates();
        due("reach(" + r + ")", s.reach(r), true);
        due("look(1)", s.look(1), r);
        due("plates", s.look(0), 0);
    }

    private static void lookPlates() {
        sentence("6: NONE for another what", () -> {
            for (int what : new int[] {-1, 6, 7, 10, Integer.MIN_VALUE, Integer.MAX_VALUE}) {
                due("look(" + what + ")", sky().look(what), NONE);
                due("look(" + what + ") without plates", new StarPlates().look(what), NONE);
            }
        });
        sentence("6: the FRAME is NONE without PLATES", () -> due("look(2)", new StarPlates().look(2), NONE));
        sentence("6: the FRAME is NONE after refused PLATES alone", () -> {
            StarPlates s = new StarPlates();
            s.plate(-1);
            s.plate(1000);
            due("look(2)", s.look(2), NONE);
        });
        sentence("6: the FRAME is the first by YEARS, not by number", () -> {
            StarPlates s = new StarPlates();
            int[] years = {500, 501, 499, 999, 0};
            int[] frames = {0, 0, 2, 2, 4};
            for (int p = 0; p < 5; p++) {
                s.plate(years[p]);
                due("look(2) with " + (p + 1), s.look(2), frames[p]);
            }
        });
        sentence("6: the FRAME may be without SPOTS", () -> {
            StarPlates s = sky();
            s.plate(0);
            due("frame", s.look(2), 3);
            due("tracks", s.look(3), 0);
            due("still ones", s.look(4), 0);
            due("misses", s.look(5), 0);
        });
    }

    private static void lookTracks() {
        sentence("6: no TRACKS, STILL ones or MISSES without PLATES", () -> {
            for (int what = 3; what < 6; what++) {
                due("look(" + what + ")", new StarPlates().look(what), 0);
            }
        });
        sentence("6: 8 TRACKS at most", () -> due("look(3)", fullPlate().look(3), 8));
        sentence("6: without MOTION none is STILL", () -> {
            due("one plate missed by all", fullPlate().look(4), 0);
            StarPlates one = new StarPlates();
            put(one, 1, 10, 10, 20, 10);
            due("one plate alone", one.look(4), 0);
        });
        sentence("6: all 8 may be STILL", () -> {
            StarPlates s = fullPlate();
            for (int i = 0; i < 8; i++) {
                s.spot(1, 10 + 10 * i, 10);
            }
            due("look(4)", s.look(4), 8);
            due("look(5)", s.look(5), 0);
        });
        sentence("6: no MISSES with one PLATE", () -> {
            StarPlates one = new StarPlates();
            put(one, 1, 10, 10, 20, 10);
            due("look(5)", one.look(5), 0);
        });
        sentence("6: a PLATE without SPOTS is a MISS in all TRACKS", () -> due("look(5)", fullPlate().look(5), 8));
        sentence("6: 32 MISSES at most", () -> {
            StarPlates s = fullPlate();
            for (int year = 3; year < 6; year++) {
                s.plate(year);
            }
            due("look(5)", s.look(5), 32);
        });
        sentence("6: a SPOT of no TRACK is no MISS", () -> {
            StarPlates s = new StarPlates();
            anchored(s, 1);
            anchored(s, 2, 500, 500, 600, 300);
            due("look(5)", s.look(5), 0);
            due("look(3)", s.look(3), 4);
        });
    }

    private static void of() {
        sentence("7: NONE for a PLATE below 0", () -> {
            for (int p : new int[] {-1, -5, Integer.MIN_VALUE}) {
                due("of(" + p + ", 0)", sky().of(p, 0), NONE);
            }
        });
        sentence("7: NONE for a PLATE past the last", () -> {
            for (int p : new int[] {3, 4, 5, Integer.MAX_VALUE}) {
                due("of(" + p + ", 0)", sky().of(p, 0), NONE);
                due("of(" + p + ", 1)", sky().of(p, 1), NONE);
            }
            due("past the last of 5", fivePlates().of(5, 0), NONE);
            due("the last of 5", fivePlates().of(4, 0), 30);
        });
        sentence("7: NONE for a what between 1 and 10", () -> {
            for (int what = 2; what < 10; what++) {
                due("of(0, " + what + ")", fullPlate().of(0, what), NONE);
            }
        });
        sentence("7: NONE for a what below 0", () -> {
            for (int what : new int[] {-1, -2, -10, Integer.MIN_VALUE, Integer.MIN_VALUE + 10}) {
                due("of(0, " + what + ")", fullPlate().of(0, what), NONE);
            }
        });
        sentence("7: x and y of the first and of the eighth SPOT", () -> {
            StarPlates s = fullPlate();
            due("of(0, 10)", s.of(0, 10), 10);
            due("of(0, 11)", s.of(0, 11), 10);
            due("of(0, 24)", s.of(0, 24), 80);
            due("of(0, 25)", s.of(0, 25), 10);
        });
        sentence("7: NONE past the last SPOT", () -> {
            for (int what : new int[] {26, 27, 28, 42, Integer.MAX_VALUE, Integer.MAX_VALUE - 1}) {
                due("of(0, " + what + ")", fullPlate().of(0, what), NONE);
            }
            due("x past 5", sky().of(0, 20), NONE);
            due("y past 5", sky().of(0, 21), NONE);
            due("y of the last of 5", sky().of(0, 19), 500);
        });
        sentence("7: NONE for a SPOT of a PLATE without any", () -> {
            due("of(1, 1)", fullPlate().of(1, 1), 0);
            due("of(1, 10)", fullPlate().of(1, 10), NONE);
            due("of(1, 11)", fullPlate().of(1, 11), NONE);
        });
    }

    private static void calls() {
        sentence("An object is used for at most 512 calls: the 512th still answers", () -> {
            StarPlates s = new StarPlates();
            put(s, 1, 10, 10, 400, 10, 10, 700);
            put(s, 2, 10, 10, 400, 10, 10, 700);
            for (int n = 8; n < 510; n += 2) {
                due("wipe, call " + (n + 1), s.wipe(1, 2), true);
                due("spot, call " + (n + 2), s.spot(1, 10, 700), 2);
            }
            due("call 511", s.look(4), 3);
            due("call 512", s.lay(0, 1, 0), 3);
        });
    }
}
