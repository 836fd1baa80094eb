import java.util.ArrayList;
import java.util.List;
import java.util.function.Supplier;

/**
 * What a call must not change: of twins that came about by the same calls, one gets a call more that is REFUSED, that
 * answers NONE or that only asks; then both are asked all that can be seen, and answer the same.
 */
public final class UnchangedTest extends Due {
    /** An object answers for 512 calls, so all that can be seen is asked in several pieces, each of new twins. */
    private static final List<List<String>> PIECES = pieces();
    private static final int[] REASONS = {-1, -2, -3, -5, -6};

    public static void main(String[] args) {
        refusedOrder();
        refusedInBusy();
        refusedInLastNight();
        refusedInNew();
        nones();
        questions();
        lawsThatAreRefused();
        beginsAnew();
        goesBack();
        imagesStay();
        end();
    }

    /** Much of everything, and all that has a most is full. */
    private static RedGlass busy() {
        RedGlass x = new RedGlass();
        String[] laws = {"bars", "danger rock*2+night;will 3+to;bars if far>2 and night>5", "will 0", "danger 5+storm*4",
            "danger mood", "will 7;bars if to=1"};
        for (int i = 0; i < laws.length; i++) {
            due("law()", write(x, laws[i]).law(), i);
        }
        calls(x, "terms(0,6) terms(1,4) terms(2,70) storm(3,1) storm(58,1) storm(59,1) force(1)");
        calls(x, "wed(0,4,9) wed(5,0,59) wed(1,30,31) wed(2,59,59) sea(0,99) sea(4,20) sea(11,50)");
        for (int i = 0; i < 16; i++) {
            x.report(i * 5 % 6, i * 7 % 60, i % 3 == 0 ? 1 : 0);
        }
        calls(x, "oar(2)=1 oar(3)=2 oar(3)=3 image(1)=0 terms(1,5)=4 oar(3)=4 oar(4)=5 year(77,3) storm(20,1)=0");
        write(x, "\u0007\u0008\u00ff\u003c").row();
        return write(x, "\u0001\u0002\u00fe" + "9".repeat(397));
    }

    private static RedGlass lastNight() {
        RedGlass x = calls("terms(0,2) sea(3,3) year(5,1) report(1,59,1)");
        for (int night = 1; night <= 59; night++) {
            due("oar", x.oar(night % 2), night);
        }
        return x;
    }

    private static List<List<String>> pieces() {
        List<List<String>> pieces = new ArrayList<>();
        for (int rock = 0; rock < 9; rock++) {
            List<String> piece = new ArrayList<>();
            for (int night = 0; night < 60; night++) {
                piece.add("of(" + rock + "," + night + ",0)");
                piece.add("of(" + rock + "," + night + ",1)");
                piece.add("goes(" + rock + "," + (rock + 1 + night % 8) % 9 + "," + night + ")");
                piece.add("will(" + rock + "," + (rock + 1 + night % 8) % 9 + "," + night + ")");
            }
            pieces.add(piece);
        }
        pieces.add(counted());
        pieces.add(sighted());
        pieces.add(tapeSeen());
        pieces.add(lawsSeen());
        pieces.add(moved());
        return pieces;
    }

    private static List<String> counted() {
        List<String> piece = new ArrayList<>();
        for (int what = 0; what < 16; what++) {
            if (what < 8 || what > 12) {
                piece.add("count(" + what + ")");
            }
        }
        piece.addAll(List.of("fault()", "spray()", "unwarned()", "round(0,0,31,-1)", "round(0,0,31,4)",
            "reach(0,0,5)", "guard(3,0,59,-1)", "guard(3,0,59,30)"));
        for (int night = 0; night < 60; night++) {
            piece.add("trail(" + night + ")");
            piece.add("drawn(" + night + ")");
        }
        for (int n = 0; n <= 6; n++) {
            piece.addAll(List.of("search(" + n + ",0)", "search(" + n + ",1)", "search(" + n + ",2)"));
        }
        for (int night = 0; night < 60; night++) {
            piece.add("storm(" + night + ",0)");
        }
        return piece;
    }

    private static List<String> sighted() {
        List<String> piece = new ArrayList<>(List.of("lies()", "ways()", "liars(0)", "liars(1)"));
        for (int night = 0; night < 60; night++) {
            piece.addAll(List.of("could(" + night + ")", "likely(" + night + ",0)", "likely(" + night + ",1)"));
        }
        for (int i = 0; i < 16; i++) {
            piece.addAll(List.of("burn(0)", "lies()", "liars(1)"));
        }
        for (int i = 0; i < 4; i++) {
            piece.addAll(List.of("jilt(0)", "of(0,4,1)", "of(1,30,1)", "of(2,59,1)", "of(5,7,1)"));
        }
        return piece;
    }

    private static List<String> tapeSeen() {
        List<String> piece = new ArrayList<>(List.of("count(7)", "row()", "spray()"));
        for (int night = 0; night < 60; night++) {
            piece.add("storm(" + night + ",1)");
        }
        for (int i = 0; i < 60; i++) {
            piece.addAll(List.of("unrow()", "count(5)", "count(6)"));
        }
        return piece;
    }

    private static List<String> lawsSeen() {
        List<String> piece = new ArrayList<>();
        for (int law = -1; law < 7; law++) {
            piece.add("force(" + law + ")");
            for (int rock = 0; rock < 6; rock++) {
                piece.addAll(List.of("of(" + rock + ",3,0)", "goes(" + rock + ",1,6)", "will(" + rock + ",2,6)"));
            }
        }
        return piece;
    }

    /** What the IMAGES keep, and that what can be done next is the same. */
    private static List<String> moved() {
        List<String> piece = new ArrayList<>(List.of("oar(0)", "oar(1)", "oar(2)", "unwarned()", "year(9,0)", "drawn(59)"));
        for (int k = 1; k >= 0; k--) {
            piece.add("back(" + k + ")");
            piece.addAll(List.of("count(0)", "count(1)", "count(2)", "count(3)", "count(4)", "count(5)", "count(6)",
                "count(13)", "count(14)", "count(15)", "unwarned()", "lies()", "ways()", "likely(30,0)", "of(5,59,0)",
                "of(5,59,1)", "search(6,0)", "trail(2)", "year(3,0)", "drawn(50)"));
        }
        return piece;
    }

    /** One more call for one of the twins; by what it is REFUSED, 0 if it is not (then its answer is free). */
    private static void unchanged(Supplier<RedGlass> made, String call, int why) {
        for (List<String> piece : PIECES) {
            RedGlass x = made.get();
            RedGlass twin = made.get();
            int status = x.status();
            int[] counts = new int[5];
            for (int i = 0; i < 5; i++) {
                counts[i] = x.count(8 + i);
            }
            calls(x, why == 0 ? call : call + "=" + why);
            due("status() behind " + call, x.status(), why == 0 ? status : why);
            for (int i = 0; i < 5; i++) {
                due("count(" + (8 + i) + ") behind " + call, x.count(8 + i), counts[i] + (REASONS[i] == why ? 1 : 0));
            }
            same(x, twin, piece, call);
        }
    }

    private static void same(RedGlass x, RedGlass twin, List<String> piece, String call) {
        for (String question : piece) {
            due(question + " behind " + call, answer(x, question), answer(twin, question));
        }
    }

    private static void refusedOrder() {
        promise(4, "The first of these in that order: -1, -2, -5");
        unchanged(UnchangedTest::busy, "wed(9,5,4)", -1);
        unchanged(UnchangedTest::busy, "wed(6,0,60)", -1);
        unchanged(UnchangedTest::busy, "wed(-1,-1,0)", -1);
        unchanged(UnchangedTest::busy, "wed(6,0,59)", -2);
        unchanged(UnchangedTest::busy, "wed(5,0,59)", -5);
        promise(16, "The first of these in that order: -2, -3");
        unchanged(UnchangedTest::lastNight, "oar(2)", -2);
        unchanged(UnchangedTest::lastNight, "oar(1)", -3);
        promise(20, "The first of these in that order: -1, -2, -5");
        unchanged(UnchangedTest::busy, "report(6,60,0)", -1);
        unchanged(UnchangedTest::busy, "report(6,0,2)", -1);
        unchanged(UnchangedTest::busy, "report(6,0,1)", -2);
        unchanged(UnchangedTest::busy, "report(5,0,1)", -5);
        promise(32, "The first of these in that order: -1, -2");
        unchanged(UnchangedTest::busy, "year(1000001,6)", -1);
        unchanged(UnchangedTest::busy, "year(-1,-1)", -1);
        unchanged(UnchangedTest::busy, "year(1000000,6)", -2);
        promise(35, "The first of these in that order: -1, -2");
        unchanged(UnchangedTest::busy, "back(2)", -1);
        unchanged(UnchangedTest::busy, "back(0)", -2);
    }

    private static void refusedInBusy() {
        promise(2, "-1 a number that can't be");
        for (String call : List.of("terms(0,0)", "terms(0,10)", "terms(1,-1)", "terms(1,10)", "terms(2,0)",
            "terms(2,101)", "terms(3,1)", "terms(-1,1)")) {
            unchanged(UnchangedTest::busy, call, -1);
        }
        promise(3, "-1 a number that can't be");
        for (String call : List.of("storm(60,1)", "storm(-1,1)", "storm(3,2)", "storm(3,-1)")) {
            unchanged(UnchangedTest::busy, call, -1);
        }
        promise(5, "-2 there is no such WEDDING");
        unchanged(UnchangedTest::busy, "jilt(4)", -2);
        unchanged(UnchangedTest::busy, "jilt(-1)", -2);
        promise(12, "-2 there is no such LAW");
        unchanged(UnchangedTest::busy, "force(6)", -2);
        unchanged(UnchangedTest::busy, "force(-2)", -2);
        promise(16, "-2; -3 no boat GOES");
        unchanged(UnchangedTest::busy, "oar(6)", -2);
        unchanged(UnchangedTest::busy, "oar(-1)", -2);
        unchanged(() -> calls(busy(), "storm(5,1)"), "oar(3)", -3);
        unchanged(() -> calls(busy(), "force(0)"), "oar(3)", -3);
        unchanged(() -> calls(busy(), "jilt(0) wed(4,5,5)"), "oar(3)", -3);
        promise(21, "-2 there is no such REPORT");
        unchanged(UnchangedTest::busy, "burn(16)", -2);
        unchanged(UnchangedTest::busy, "burn(-1)", -2);
        promise(30, "-1 a number that can't be");
        for (String call : List.of("sea(12,5)", "sea(-1,5)", "sea(0,100)", "sea(0,-1)")) {
            unchanged(UnchangedTest::busy, call, -1);
        }
        promise(34, "-1 a number that can't be");
        unchanged(UnchangedTest::busy, "image(2)", -1);
        unchanged(UnchangedTest::busy, "image(-1)", -1);
    }

    private static void refusedInLastNight() {
        promise(16, "-3 NIGHT 59");
        unchanged(UnchangedTest::lastNight, "oar(0)", -3);
        promise(27, "NONE (never)");
        unchanged(UnchangedTest::lastNight, "round(0,59,2,-1)", 0);
        promise(29, "NIGHTS a .. b: 59 both");
        unchanged(UnchangedTest::lastNight, "guard(0,59,59,0)", 0);
    }

    private static void refusedInNew() {
        promise(8, "-6 the TAPE is empty");
        unchanged(RedGlass::new, "row()", -6);
        promise(17, "-3 it is NIGHT 0");
        unchanged(RedGlass::new, "unrow()", -3);
        promise(5, "-2 there is no such WEDDING: none");
        unchanged(RedGlass::new, "jilt(0)", -2);
        promise(12, "-2 there is no such LAW: none");
        unchanged(RedGlass::new, "force(0)", -2);
        promise(21, "-2 there is no such REPORT: none");
        unchanged(RedGlass::new, "burn(0)", -2);
        promise(35, "-2 it was not kept: none");
        unchanged(RedGlass::new, "back(1)", -2);
    }

    private static void nones() {
        promise(6, "NONE, if there would be more than 400");
        unchanged(UnchangedTest::busy, "feed(1,2,3,4,5)", 0);
        unchanged(() -> calls(busy(), "end(381)"), "feed(1,2,3,4,5)", 0);
        promise(7, "NONE, if it has not so many, or n is below 0");
        unchanged(UnchangedTest::busy, "end(401)", 0);
        unchanged(UnchangedTest::busy, "end(-1)", 0);
        String[] calls = {"13 goes(6,0,0)", "13 goes(0,0,0)", "13 goes(0,1,59)", "14 of(6,0,0)", "14 of(0,60,1)",
            "14 of(0,0,2)", "15 will(0,6,0)", "15 will(0,1,59)", "18 trail(6)", "18 trail(-1)", "22 could(60)",
            "25 likely(0,2)", "25 likely(-1,0)", "26 liars(2)", "27 round(6,0,0,-1)", "27 round(0,0,64,-1)",
            "27 round(0,0,1,1)", "28 reach(6,0,0)", "28 reach(0,60,0)", "29 guard(0,5,4,-1)", "29 guard(0,0,5,6)",
            "31 search(7,0)", "31 search(0,2)", "31 search(1,3)", "33 drawn(60)", "36 count(16)", "36 count(-1)"};
        for (String call : calls) {
            String[] words = call.split(" ");
            promise(Integer.parseInt(words[0]), "NONE");
            calls(busy(), words[1] + "=-1");
            unchanged(UnchangedTest::busy, words[1], 0);
        }
    }

    /** Calls that only ask change nothing, not even what the latest call was REFUSED by. */
    private static void questions() {
        String[] calls = {"9 spray()", "11 fault()", "13 goes(0,1,7)", "14 of(3,7,0)", "14 of(3,7,1)", "15 will(0,1,7)",
            "18 trail(3)", "19 unwarned()", "22 could(7)", "23 lies()", "24 ways()", "25 likely(7,0)", "25 likely(7,1)",
            "26 liars(0)", "27 round(0,0,63,-1)", "27 round(0,0,31,3)", "28 reach(0,0,5)", "29 guard(0,0,59,-1)",
            "29 guard(0,10,20,4)", "31 search(6,0)", "31 search(6,2)", "33 drawn(7)", "36 count(0)", "37 status()",
            "7 end(400)"};
        for (String call : calls) {
            String[] words = call.split(" ");
            promise(Integer.parseInt(words[0]), "a call that only asks");
            unchanged(UnchangedTest::busy, words[1], 0);
            unchanged(() -> calls(busy(), "jilt(9)"), words[1], 0);
        }
    }

    /** law() empties the TAPE even if it is REFUSED; FAULT is of the latest TEXT that was read. */
    private static void lawsThatAreRefused() {
        promise(10, "-5 (ahead of reading it; the TAPE is empty then, too)");
        for (List<String> piece : PIECES) {
            RedGlass x = calls(busy(), "law()=-5 status()=-5 count(7)=0");
            same(x, calls(busy(), "end(0)=0"), piece, "law() of a TEXT that can't be, without room");
            x = write(calls(busy(), "end(0)=0"), "danger 5");
            calls(x, "law()=-5 status()=-5 count(7)=0");
            same(x, calls(busy(), "end(0)=0"), piece, "law() of a good TEXT, without room");
            x = calls(busy(), "end(0)=0 law()=-5 status()=-5 count(7)=0");
            same(x, calls(busy(), "end(0)=0"), piece, "law() of an empty TAPE, without room");
        }
        promise(10, "-6 a TEXT that can't be: nothing but the TAPE and FAULT changes");
        for (List<String> piece : PIECES) {
            RedGlass x = calls(write(under("danger 5"), "bars bars"), "law()=-6 status()=-6 count(12)=1 fault()=5");
            RedGlass twin = calls(write(new RedGlass(), "will 1 1"), "law()=-6");
            calls(write(twin, "danger 5"), "law()=0 force(0)=-1");
            calls(write(twin, "bars;1"), "law()=-6 fault()=5");
            same(x, twin, piece, "law() of a TEXT that can't be");
        }
    }

    /** Only LAWS, STORMS, TERMS, WEIGHTS are left: as of an object that never had more. */
    private static void beginsAnew() {
        promise(2, "all begins anew but LAWS, STORMS, TERMS, WEIGHTS at sea");
        for (int rocks = 1; rocks <= 9; rocks++) {
            for (List<String> piece : PIECES) {
                RedGlass x = calls(laden(true), "terms(0," + rocks + ")=6 status()=0");
                RedGlass twin = calls(laden(false), "terms(0," + rocks + ")=6");
                same(x, twin, piece, "terms(0," + rocks + ")");
            }
        }
        calls(calls(laden(true), "terms(0,6)=6"), "count(3)=0 count(4)=0 count(5)=0 count(6)=0 trail(0)=0 trail(1)=-1");
    }

    private static RedGlass laden(boolean more) {
        RedGlass x = under("danger rock*2+night;will 3+to;bars if far>2 and night>5", 6);
        calls(x, "terms(1,4) terms(2,70) storm(13,1) storm(58,1) sea(0,99) sea(4,20)");
        if (more) {
            calls(x, "wed(0,4,9) wed(5,0,59) wed(1,30,31) wed(2,59,59) report(1,2,1) report(3,4,0) report(3,4,1)");
            calls(x, "oar(2)=1 oar(3)=2 oar(3)=3 unrow()=3 lies()=1");
        }
        return x;
    }

    private static void goesBack() {
        promise(35, "BACK to one all that it keeps is as it was then");
        String changes = "storm(3,0) storm(4,1) jilt(0) wed(3,3,3) jilt(1) burn(3) burn(0) report(0,0,1) force(3) "
            + "unrow() oar(1) oar(1) oar(2) oar(2) terms(1,9) terms(2,3) sea(0,1) sea(5,5)";
        for (String more : new String[] {"", " terms(0,9) oar(8) wed(8,0,59) report(8,59,1)", " terms(0,1)"}) {
            for (List<String> piece : PIECES) {
                RedGlass x = calls(busy(), "image(0)=0 " + changes + more + " back(0)=0 status()=0");
                same(x, calls(busy(), "image(0)=0"), piece, "back(0)");
            }
        }
        for (List<String> piece : PIECES) {
            RedGlass x = calls(new RedGlass(), "image(0)=0");
            due("law()", write(x, "danger 9;bars").law(), 0);
            calls(x, "force(0)=-1 wed(0,0,59) report(0,0,1) oar(0) oar(0) back(0)=0");
            same(x, calls("image(0)"), piece, "back(0) to nothing");
        }
        promise(35, "all but the TAPE, FAULT, SPRAY, the latest YEAR");
        RedGlass x = calls(busy(), "image(0)=0 end(0)=0");
        due("law() without room", write(x, "bars").law(), -5);
        write(x, "zzzzz").row();
        calls(write(x, "xy"), "year(5,5) spray()=5 count(7)=2");
        int late = x.drawn(40);
        calls(x, "back(1)=0 back(0)=0 spray()=5 count(7)=2 drawn(0)=5");
        due("drawn(40) behind back(0)", x.drawn(40), late);
        promise(35, "how many calls were REFUSED (IMAGES do not keep that)");
        calls("image(0) jilt(0)=-2 unrow()=-3 storm(60,0)=-1 back(0)=0 count(8)=1 count(9)=1 count(10)=1");
    }

    private static void imagesStay() {
        promise(35, "IMAGES stay");
        calls("terms(1,3) image(0) terms(1,4) image(1) terms(1,5) back(0)=0 count(14)=3 back(1)=0 count(14)=4 "
            + "back(0)=0 count(14)=3 terms(1,7) back(0)=0 count(14)=3 terms(0,2) back(0)=0 count(0)=9 back(1)=0 "
            + "count(14)=4");
        promise(35, "its own LAWS, though their numbers are the same");
        RedGlass x = calls("image(0)");
        calls(write(x, "danger 8"), "law()=0 image(1) back(0) count(2)=0 force(0)=-2");
        calls(write(x, "danger 9"), "law()=0 force(0)=-1 of(0,0,0)=9 image(0) back(1) count(13)=-1 force(0)=-1 of(0,0,0)=8");
        calls(x, "back(0) of(0,0,0)=9 count(13)=0 back(1) of(0,0,0)=1 force(0)=-1 of(0,0,0)=8");
        promise(35, "the whole of the NIGHTS: NIGHT 59");
        x = calls(lastNight(), "trail(59)=1 image(0) unrow()=0 oar(0)=59 trail(59)=0 image(1) back(0) trail(59)=1 count(6)=1");
        calls(x, "back(1) trail(59)=0 count(6)=0 terms(0,2) trail(59)=-1 back(0) trail(59)=1 trail(58)=0 unwarned()=60");
        promise(34, "IMAGE k is kept: an IMAGE of nothing, of all that is full");
        calls("image(0)=0 wed(0,0,0) report(0,0,0) storm(0,1) sea(0,1) oar(0) back(0)=0 count(1)=0 count(3)=0 count(4)=0 "
            + "count(5)=0 search(0,0)=-1");
        calls(calls(busy(), "image(0)=0 terms(0,9)"), "back(0)=0 count(2)=6 count(3)=4 count(4)=16 wed(0,0,0)=-5 "
            + "report(0,0,0)=-5 jilt(3)=3 burn(15)=15");
        promise(34, "IMAGE k is kept");
        calls("terms(1,3) image(1)=0 terms(1,4) image(1)=0 terms(1,5) back(1)=0 count(14)=4 back(0)=-2");
    }
}
