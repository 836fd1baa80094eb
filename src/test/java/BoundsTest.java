import java.util.function.Supplier;

/** Each number of each call: the smallest and the largest that can be, those beyond, and how that is answered. */
public final class BoundsTest extends Due {
    private static final Supplier<RedGlass> NEW = RedGlass::new;

    public static void main(String[] args) {
        terms();
        storms();
        weddings();
        tape();
        laws();
        boats();
        dangers();
        glass();
        reports();
        sightings();
        rounds();
        guards();
        sea();
        years();
        images();
        counts();
        end();
    }

    /** A call that can be REFUSED, with "?" for the number that is tried. */
    private static void refused(Supplier<RedGlass> fresh, String call, int low, int high, int why) {
        for (int number : new int[] {low, low + (high - low) / 2, high}) {
            RedGlass x = fresh.get();
            int[] before = refusals(x);
            calls(x, call.replace("?", "" + number));
            due("status() behind " + call + " of " + number, x.status(), 0);
            sameRefusals(x, before, 0, call + " of " + number);
        }
        for (int number : new int[] {low - 1, high + 1, Integer.MIN_VALUE, Integer.MAX_VALUE}) {
            RedGlass x = fresh.get();
            int[] before = refusals(x);
            asked(x, call, number, why);
            due("status() behind " + call + " of " + number, x.status(), why);
            sameRefusals(x, before, why, call + " of " + number);
        }
    }

    /** A call that answers NONE beyond its numbers, which is not counted as REFUSED. */
    private static void none(Supplier<RedGlass> fresh, String call, int low, int high) {
        for (int number : new int[] {low, low + (high - low) / 2, high}) {
            RedGlass x = fresh.get();
            int before = x.status();
            due(call + " of " + number + " answers", isAnswered(x, call, number) ? 1 : 0, 1);
            due("status() behind " + call + " of " + number, x.status(), before);
        }
        for (int number : new int[] {low - 1, high + 1, Integer.MIN_VALUE, Integer.MAX_VALUE}) {
            RedGlass x = fresh.get();
            int status = x.status();
            int[] before = refusals(x);
            asked(x, call, number, -1);
            due("status() behind " + call + " of " + number, x.status(), status);
            sameRefusals(x, before, 0, call + " of " + number);
        }
    }

    private static boolean isAnswered(RedGlass x, String call, int number) {
        return answer(x, call.replace("?", "" + number)) >= 0;
    }

    private static int[] refusals(RedGlass x) {
        int[] counts = new int[5];
        for (int i = 0; i < 5; i++) {
            counts[i] = x.count(8 + i);
        }
        return counts;
    }

    /** That just the count of that reason went up (0: none). */
    private static void sameRefusals(RedGlass x, int[] before, int why, String call) {
        int[] reasons = {-1, -2, -3, -5, -6};
        for (int i = 0; i < 5; i++) {
            int more = reasons[i] == why ? 1 : 0;
            due("count(" + (8 + i) + ") behind " + call, x.count(8 + i), before[i] + more);
        }
    }

    private static void terms() {
        promise(2, "TERMS: 0 ROCKS 1 .. 9, 1 MOOD 0 .. 9, 2 SURE 1 .. 100");
        refused(NEW, "terms(0,?)", 1, 9, -1);
        refused(NEW, "terms(1,?)", 0, 9, -1);
        refused(NEW, "terms(2,?)", 1, 100, -1);
        refused(NEW, "terms(?,1)", 0, 2, -1);
        refused(NEW, "terms(?,9)", 0, 2, -1);
        promise(2, "9, 0, 50 at first; what it was");
        calls("terms(0,9)=9 terms(0,1)=9 terms(0,9)=1");
        calls("terms(1,9)=0 terms(1,0)=9 terms(1,0)=0");
        calls("terms(2,1)=50 terms(2,100)=1 terms(2,50)=100");
    }

    private static void storms() {
        promise(3, "NIGHTS 0 .. 59; STORMY (1), is not (0)");
        refused(NEW, "storm(?,1)", 0, 59, -1);
        refused(NEW, "storm(?,0)", 0, 59, -1);
        refused(NEW, "storm(0,?)", 0, 1, -1);
    }

    private static void weddings() {
        promise(4, "ROCKS of the TERMS tell how many: -2");
        for (int rocks = 1; rocks <= 9; rocks++) {
            refused(withRocks(rocks), "wed(?,0,59)", 0, rocks - 1, -2);
        }
        promise(4, "-1 (till ahead of from, too)");
        refused(NEW, "wed(0,?,59)", 0, 59, -1);
        refused(NEW, "wed(0,0,?)", 0, 59, -1);
        refused(NEW, "wed(0,?,30)", 0, 30, -1);
        refused(NEW, "wed(0,30,?)", 30, 59, -1);
        refused(NEW, "wed(0,59,?)", 59, 59, -1);
        refused(NEW, "wed(0,?,0)", 0, 0, -1);
        promise(5, "-2: there is no such WEDDING");
        for (int most = 1; most <= 4; most++) {
            refused(times(most, "wed(0,0,0)"), "jilt(?)", 0, most - 1, -2);
        }
        calls("jilt(0)=-2 status()=-2 count(9)=1");
    }

    private static void tape() {
        promise(7, "NONE, if it has not so many, or n is below 0");
        none(NEW, "end(?)", 0, 0);
        none(times(1, "feed(0,0,0,0,0)"), "end(?)", 0, 20);
        none(times(20, "feed(0,0,0,0,0)"), "end(?)", 0, 400);
        none(times(1, "feed(0,0,0,0,0) end(7)"), "end(?)", 0, 7);
    }

    private static void laws() {
        promise(12, "A LAW is in FORCE (NONE: none): -2");
        for (int most = 0; most <= 6; most++) {
            int laws = most;
            refused(() -> withLaws(laws), "force(?)", -1, laws - 1, -2);
        }
    }

    private static RedGlass withLaws(int laws) {
        RedGlass x = new RedGlass();
        for (int i = 0; i < laws; i++) {
            due("law()", write(x, "bars if rock=" + i).law(), i);
        }
        return x;
    }

    private static void boats() {
        for (String name : new String[] {"goes", "will"}) {
            promise(name.equals("goes") ? 13 : 15, "NONE (to itself, NIGHT 59, too)");
            for (int rocks = 2; rocks <= 9; rocks++) {
                none(withRocks(rocks), name + "(?,0,0)", 1, rocks - 1);
                none(withRocks(rocks), name + "(0,?,58)", 1, rocks - 1);
                none(withRocks(rocks), name + "(" + (rocks - 1) + ",?,0)", 0, rocks - 2);
            }
            none(NEW, name + "(0,1,?)", 0, 58);
            none(NEW, name + "(8,7,?)", 0, 58);
            for (int rock = 0; rock < 9; rock++) {
                calls(name + "(" + rock + "," + rock + ",0)=-1 " + name + "(" + rock + "," + rock + ",58)=-1");
            }
            calls("terms(0,1) " + name + "(0,0,0)=-1 " + name + "(0,1,0)=-1 " + name + "(1,0,0)=-1");
        }
    }

    private static void dangers() {
        promise(14, "a ROCK, a NIGHT, what 0, 1: else NONE");
        for (String what : new String[] {"0", "1"}) {
            for (int rocks = 1; rocks <= 9; rocks++) {
                none(withRocks(rocks), "of(?,0," + what + ")", 0, rocks - 1);
            }
            none(NEW, "of(0,?," + what + ")", 0, 59);
        }
        none(NEW, "of(0,0,?)", 0, 1);
    }

    private static void glass() {
        promise(16, "-2: there is no such ROCK");
        for (int rocks = 1; rocks <= 9; rocks++) {
            refused(withRocks(rocks), "oar(?)", 0, rocks - 1, -2);
        }
        promise(18, "in a NIGHT till now");
        for (int night : new int[] {0, 1, 30, 58, 59}) {
            none(times(night, "oar(0)"), "trail(?)", 0, night);
        }
    }

    private static void reports() {
        promise(20, "-1; -2");
        for (int rocks = 1; rocks <= 9; rocks++) {
            refused(withRocks(rocks), "report(?,0,0)", 0, rocks - 1, -2);
        }
        refused(NEW, "report(0,?,0)", 0, 59, -1);
        refused(NEW, "report(0,0,?)", 0, 1, -1);
        promise(21, "-2: there is no such REPORT");
        for (int most : new int[] {1, 2, 15, 16}) {
            refused(times(most, "report(0,0,0)"), "burn(?)", 0, most - 1, -2);
        }
        calls("burn(0)=-2 status()=-2 count(9)=1");
    }

    private static void sightings() {
        promise(22, "in a NIGHT: else NONE");
        none(NEW, "could(?)", 0, 59);
        promise(25, "in a NIGHT, what 0, 1: else NONE");
        none(NEW, "likely(?,0)", 0, 59);
        none(NEW, "likely(?,1)", 0, 59);
        none(NEW, "likely(59,?)", 0, 1);
        promise(26, "what 0, 1: else NONE");
        none(NEW, "liars(?)", 0, 1);
    }

    private static void rounds() {
        promise(27, "a ROCK, a NIGHT, told ROCKS (bits), i NONE or of the WAY: else NONE");
        for (int rocks = 1; rocks <= 9; rocks++) {
            none(withRocks(rocks), "round(?,0,0,-1)", 0, rocks - 1);
            none(withRocks(rocks), "round(0,0,?,-1)", 0, (1 << rocks) - 1);
            none(withRocks(rocks), "round(?,0,0,0)", 0, rocks - 1);
        }
        none(NEW, "round(0,?,0,-1)", 0, 59);
        none(NEW, "round(0,?,1,0)", 0, 59);
        withNone("round(0,0,511,?)", 8);
        withNone("round(3,7,8,?)", 0);
        withNone("round(3,51,511,?)", 8);
        promise(28, "a ROCK, a NIGHT, a ROCK: else NONE");
        for (int rocks = 1; rocks <= 9; rocks++) {
            none(withRocks(rocks), "reach(?,0,0)", 0, rocks - 1);
            none(withRocks(rocks), "reach(0,0,?)", 0, rocks - 1);
        }
        none(NEW, "reach(0,?,0)", 0, 59);
        none(NEW, "reach(0,?,1)", 0, 58);
    }

    private static void guards() {
        promise(29, "a ROCK, NIGHTS a .. b, i NONE or of the WAY: else NONE");
        for (int rocks = 1; rocks <= 9; rocks++) {
            none(withRocks(rocks), "guard(?,0,59,-1)", 0, rocks - 1);
            none(withRocks(rocks), "guard(?,59,59,0)", 0, rocks - 1);
        }
        none(NEW, "guard(0,?,59,-1)", 0, 59);
        none(NEW, "guard(0,0,?,-1)", 0, 59);
        none(NEW, "guard(0,?,30,0)", 0, 30);
        none(NEW, "guard(0,30,?,0)", 30, 59);
        none(NEW, "guard(0,?,0,-1)", 0, 0);
        none(NEW, "guard(0,59,?,-1)", 59, 59);
        withNone("guard(0,10,20,?)", 10);
        withNone("guard(0,0,59,?)", 59);
        withNone("guard(4,7,7,?)", 0);
    }

    /** The i of a WAY: NONE can be, and 0 to the last. */
    private static void withNone(String call, int last) {
        for (int number : new int[] {-1, 0, last}) {
            due(call + " of " + number + " answers", isAnswered(new RedGlass(), call, number) ? 1 : 0, 1);
        }
        for (int number : new int[] {-2, last + 1, Integer.MIN_VALUE, Integer.MAX_VALUE}) {
            asked(new RedGlass(), call, number, -1);
        }
    }

    private static void sea() {
        promise(30, "CELLS 0 .. 11, WEIGHTS 0 .. 99: -1");
        refused(NEW, "sea(?,0)", 0, 11, -1);
        refused(NEW, "sea(?,99)", 0, 11, -1);
        refused(NEW, "sea(0,?)", 0, 99, -1);
        refused(NEW, "sea(11,?)", 0, 99, -1);
        promise(31, "n times (0 .. 6), what 0, 1, 2: else NONE");
        none(times(1, "sea(0,1)"), "search(?,0)", 0, 6);
        none(times(1, "sea(11,1)"), "search(?,1)", 0, 6);
        none(times(1, "sea(5,1)"), "search(?,2)", 1, 6);
        none(times(1, "sea(5,1)"), "search(1,?)", 0, 2);
        none(times(1, "sea(5,1)"), "search(0,?)", 0, 1);
        for (int n = 0; n <= 6; n++) {
            for (int what = 0; what <= 2; what++) {
                asked(new RedGlass(), "search(" + n + ",?)", what, -1);
            }
        }
    }

    private static void years() {
        promise(32, "the SEED (0 .. 1,000,000): -1");
        refused(NEW, "year(?,0)", 0, 1_000_000, -1);
        refused(NEW, "year(?,8)", 0, 1_000_000, -1);
        promise(32, "the ROCK told: -2");
        for (int rocks = 1; rocks <= 9; rocks++) {
            refused(withRocks(rocks), "year(0,?)", 0, rocks - 1, -2);
        }
        promise(33, "in a NIGHT of the latest YEAR: else NONE");
        none(times(1, "year(0,0)"), "drawn(?)", 0, 59);
        for (int night : new int[] {-1, 0, 59, 60}) {
            asked(new RedGlass(), "drawn(?)", night, -1);
        }
    }

    private static void images() {
        promise(34, "IMAGES 0, 1: -1");
        refused(NEW, "image(?)", 0, 1, -1);
        promise(35, "IMAGES 0, 1: -1; -2 it was not kept");
        refused(times(1, "image(0) image(1)"), "back(?)", 0, 1, -1);
        calls("back(0)=-2 status()=-2 count(9)=1 image(1)=0 back(0)=-2 count(9)=2 back(1)=0 status()=0 count(9)=2");
        calls("back(1)=-2 status()=-2 count(9)=1 image(0)=0 back(1)=-2 count(9)=2 back(0)=0 status()=0 count(9)=2");
    }

    private static void counts() {
        promise(36, "NONE for others");
        none(() -> under("bars"), "count(?)", 0, 15);
        for (int what = 0; what <= 15; what++) {
            due("count(" + what + ") answers", isAnswered(under("bars"), "count(?)", what) ? 1 : 0, 1);
        }
    }

    private static Supplier<RedGlass> withRocks(int rocks) {
        return () -> calls("terms(0," + rocks + ")");
    }

    private static Supplier<RedGlass> times(int times, String calls) {
        return () -> times == 0 ? new RedGlass() : calls((calls + " ").repeat(times));
    }
}
