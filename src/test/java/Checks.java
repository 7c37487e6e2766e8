import java.util.ArrayList;
import java.util.List;
import java.util.function.Consumer;
import java.util.function.Supplier;

/** What the tests share: answers that are due, plates made in one line, and all answers at once. */
abstract class Checks {
    static final int NONE = -1;
    static final int NO_PLACE = -10000;
    static final int NO_FORETOLD = -100000;
    /** Numbers that no argument of the document may be. */
    static final int[] WRONG = {-1, -2, 9999, Integer.MIN_VALUE, Integer.MAX_VALUE};

    /** Spots so far apart and so uneven that plates with them are laid as they lie. */
    private static final int[] ANCHORS = {100, 100, 300, 140, 920, 180, 140, 880};
    private static final int PATIENCE_SECONDS = 120;

    private static String sentence = "";
    private static int sentences = 0;
    private static int asked = 0;
    private static int wrong = 0;

    private record Answer(String call, int given) {
    }

    /** Runs the parts, tells what was wrong, and ends with 1 if anything was. */
    static void run(Runnable... parts) {
        watch(PATIENCE_SECONDS);
        for (Runnable part : parts) {
            part.run();
        }
        System.out.println((sentences == 0 ? "" : sentences + " sentences, ")
                + asked + " answers, " + wrong + " of them not as due");
        if (wrong != 0) {
            System.exit(1);
        }
    }

    /** A call that doesn't end must fail the test, not hold it up. */
    static void watch(int seconds) {
        Thread watcher = new Thread(() -> {
            try {
                Thread.sleep(1000L * seconds);
            } catch (InterruptedException e) {
                return;
            }
            System.out.println(sentence + ": no end after " + seconds + " seconds");
            Runtime.getRuntime().halt(1);
        });
        watcher.setDaemon(true);
        watcher.start();
    }

    /** A test of one sentence of the document; the number ahead is that of the promise. */
    static void sentence(String words, Runnable test) {
        sentence = words;
        sentences++;
        int before = asked;
        try {
            test.run();
        } catch (RuntimeException | Error thrown) {
            fail("threw " + thrown);
        }
        if (asked == before) {
            fail("nothing was asked");
        }
        sentence = "";
    }

    private static void fail(String what) {
        wrong++;
        System.out.println((sentence.isEmpty() ? "" : "[" + sentence + "] ") + what);
    }

    static void due(String what, long got, long want) {
        asked++;
        if (got != want) {
            fail(what + " answered " + got + ", due is " + want);
        }
    }

    static void due(String what, boolean got, boolean want) {
        due(what, got ? 1 : 0, want ? 1 : 0);
    }

    /** A plate of a year with spots at x, y, x, y, .. */
    static int put(StarPlates s, int year, int... places) {
        int p = s.plate(year);
        for (int n = 0; n + 1 < places.length; n += 2) {
            due("spot " + n / 2 + " of plate " + p, s.spot(p, places[n], places[n + 1]), n / 2);
        }
        return p;
    }

    /** A plate of a year with the anchors as spots 0 to 3, and more from spot 4 on. */
    static int anchored(StarPlates s, int year, int... more) {
        int p = put(s, year, ANCHORS);
        for (int n = 0; n + 1 < more.length; n += 2) {
            due("spot " + (4 + n / 2) + " of plate " + p, s.spot(p, more[n], more[n + 1]), 4 + n / 2);
        }
        return p;
    }

    static void dueLay(String what, StarPlates s, int a, int b, int... want) {
        for (int n = 0; n < want.length; n++) {
            due(what + ": lay(" + a + ", " + b + ", " + n + ")", s.lay(a, b, n), want[n]);
        }
    }

    static void duePairs(String what, StarPlates s, int a, int b, int... want) {
        for (int j = 0; j < want.length; j++) {
            due(what + ": pair(" + a + ", " + b + ", " + j + ")", s.pair(a, b, j), want[j]);
        }
    }

    static void dueMotion(String what, StarPlates s, int i, int... want) {
        for (int n = 0; n < want.length; n++) {
            due(what + ": motion(" + i + ", " + n + ")", s.motion(i, n), want[n]);
        }
    }

    static void dueSlip(String what, StarPlates s, int p, int j, int... want) {
        for (int n = 0; n < 3; n++) {
            due(what + ": slip(" + p + ", " + j + ", " + n + ")", s.slip(p, j, n), want[n]);
        }
    }

    /** Three plates, the second one the frame, with moves, misses and a slip. */
    static StarPlates sky() {
        StarPlates s = new StarPlates();
        s.reach(5);
        put(s, 20, 100, 100, 900, 120, 130, 900, 870, 940, 504, 500);
        put(s, 1, 870, 940, 100, 100, 900, 120, 130, 900, 500, 500, 600, 300, 123, 456);
        put(s, 10, 900, 120, 100, 100, 870, 940, 130, 900, 602, 300, 132, 456);
        return s;
    }

    /** After the call, which is refused, every answer is as it was. */
    static void dueNothingDone(String what, Supplier<StarPlates> maker, Consumer<StarPlates> call) {
        dueAlike(what, () -> {
            StarPlates s = maker.get();
            call.accept(s);
            return s;
        }, maker);
    }

    /** Two ways to the same state: every question gets the same answer. */
    static void dueAlike(String what, Supplier<StarPlates> one, Supplier<StarPlates> other) {
        List<Answer> got = allAnswers(one);
        List<Answer> want = allAnswers(other);
        for (int n = 0; n < want.size(); n++) {
            due(what + ": " + want.get(n).call, got.get(n).given, want.get(n).given);
        }
    }

    /** All answers are more than an object has calls, so each half gets an object of its own. */
    private static List<Answer> allAnswers(Supplier<StarPlates> maker) {
        List<Answer> all = new ArrayList<>();
        askLays(maker.get(), all);
        askTracks(maker.get(), all);
        return all;
    }

    /** Asks for every lay and for tracks, so that whatever is kept between calls is kept. */
    static void askAround(StarPlates s) {
        for (int a = 0; a < 5; a++) {
            for (int b = 0; b < 5; b++) {
                if (a != b) {
                    s.lay(a, b, 0);
                }
            }
        }
        s.look(4);
        s.tell(0, 0);
        s.slip(0, 0, 0);
    }

    private static void askLays(StarPlates s, List<Answer> all) {
        for (int a = 0; a < 5; a++) {
            for (int what = 0; what < 26; what++) {
                all.add(new Answer("of(" + a + ", " + what + ")", s.of(a, what)));
            }
            for (int b = 0; b < 5; b++) {
                for (int n = 0; n < 8 && a != b; n++) {
                    all.add(new Answer("pair(" + a + ", " + b + ", " + n + ")", s.pair(a, b, n)));
                }
                for (int what = 0; what < 6 && a != b; what++) {
                    all.add(new Answer("lay(" + a + ", " + b + ", " + what + ")", s.lay(a, b, what)));
                }
            }
        }
    }

    private static void askTracks(StarPlates s, List<Answer> all) {
        for (int what = 0; what < 6; what++) {
            all.add(new Answer("look(" + what + ")", s.look(what)));
        }
        for (int n = 0; n < 8; n++) {
            for (int what = 0; what < 4; what++) {
                all.add(new Answer("motion(" + n + ", " + what + ")", s.motion(n, what)));
                all.add(new Answer("tell(" + n + ", " + what + ")", s.tell(n, what)));
            }
            for (int p = 0; p < 5; p++) {
                all.add(new Answer("track(" + n + ", " + p + ")", s.track(n, p)));
                all.add(new Answer("place(" + n + ", " + p + ", 0)", s.place(n, p, 0)));
                all.add(new Answer("place(" + n + ", " + p + ", 1)", s.place(n, p, 1)));
                for (int what = 0; what < 3; what++) {
                    all.add(new Answer("slip(" + p + ", " + n + ", " + what + ")", s.slip(p, n, what)));
                }
            }
            for (int what = 0; what < 2; what++) {
                all.add(new Answer("foretell(" + n + ", 777, " + what + ")", s.foretell(n, 777, what)));
            }
        }
    }
}
