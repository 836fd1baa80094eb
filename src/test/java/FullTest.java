/** Empty and full: the TAPE, STORMS, WEDDINGS, REPORTS, the NIGHTS, IMAGES; and numbers that move up. */
public final class FullTest extends Due {
    public static void main(String[] args) {
        newObject();
        storms();
        weddings();
        feeding();
        ending();
        rows();
        nights();
        rowedBack();
        unwarned();
        reports();
        weights();
        counts();
        refusalCounts();
        statuses();
        askedAgain();
        end();
    }

    private static void newObject() {
        promise(1, "Nine ROCKS, no STORMS, WEDDINGS");
        calls("count(0)=9 count(1)=0 count(3)=0 goes(8,0,0)=1 goes(9,0,0)=-1");
        RedGlass x = new RedGlass();
        for (int night = 0; night < 60; night++) {
            calls(x, "storm(" + night + ",0)=0 of(0," + night + ",1)=0 of(8," + night + ",1)=0");
        }
        promise(1, "The GLASS on ROCK 0, it is NIGHT 0 at first");
        calls("count(5)=0 count(6)=0 trail(0)=0 trail(1)=-1");
        promise(1, "MOOD 0, SURE 50, no LAW in FORCE, WEIGHTS 0, nothing REFUSED");
        calls("count(14)=0 count(15)=50 count(13)=-1 count(2)=0 count(4)=0 count(7)=0 status()=0");
        calls("count(8)=0 count(9)=0 count(10)=0 count(11)=0 count(12)=0 fault()=-1 spray()=0 drawn(0)=-1 drawn(59)=-1");
        for (int cell = 0; cell < 12; cell++) {
            calls("sea(" + cell + ",0)=0");
        }
        promise(1, "each object is its own");
        RedGlass other = new RedGlass();
        calls("storm(0,1) wed(0,0,0) terms(1,5) oar(1)");
        calls(other, "count(1)=0 count(3)=0 count(14)=0 count(5)=0");
    }

    private static void storms() {
        promise(3, "what it was");
        calls("storm(7,0)=0 storm(7,1)=0 storm(7,1)=1 storm(7,0)=1 storm(7,0)=0 count(1)=0");
        promise(3, "NIGHTS 0 .. 59: all of them, none of them");
        RedGlass x = new RedGlass();
        for (int night = 0; night < 60; night++) {
            calls(x, "storm(" + night + ",1)=0 count(1)=" + (night + 1));
        }
        calls(x, "goes(0,1,0)=0 goes(0,1,58)=0 reach(0,0,1)=-1 year(1,4)=1 ways()=9 oar(1)=-3 oar(0)=1");
        for (int night = 0; night < 60; night++) {
            calls(x, "storm(" + night + ",0)=1 count(1)=" + (59 - night));
        }
        calls(x, "goes(0,1,0)=1 goes(0,1,58)=1");
        promise(3, "a NIGHT alone");
        calls("storm(31,1)=0 goes(0,1,30)=1 goes(0,1,31)=0 goes(0,1,32)=1 storm(32,1)=0 storm(31,0)=1 goes(0,1,31)=1 "
            + "goes(0,1,32)=0 storm(59,1)=0 storm(59,1)=1 storm(0,1)=0 storm(59,0)=1 storm(0,0)=1 count(1)=1");
    }

    private static void weddings() {
        promise(4, "on a ROCK from a NIGHT till another one");
        calls("wed(3,10,20)=0 of(3,9,1)=0 of(3,10,1)=1 of(3,15,1)=1 of(3,20,1)=1 of(3,21,1)=0 of(2,15,1)=0 of(4,15,1)=0");
        calls("wed(3,10,20)=0 goes(3,0,9)=1 goes(3,0,10)=0 goes(3,0,20)=0 goes(3,0,21)=1 goes(0,3,15)=1 goes(2,4,15)=1");
        calls("wed(8,0,0)=0 of(8,0,1)=1 of(8,1,1)=0 goes(8,0,0)=0 goes(8,0,1)=1");
        calls("wed(0,59,59)=0 of(0,58,1)=0 of(0,59,1)=1 goes(0,1,58)=1 wed(0,58,59)=1 goes(0,1,58)=0");
        calls("wed(0,0,59)=0 of(0,0,1)=1 of(0,59,1)=1 goes(0,1,0)=0 goes(0,1,58)=0 oar(1)=-3 oar(0)=1");
        promise(4, "WEDDINGS 0 .. 3 (4 at most): -5");
        calls("wed(0,0,0)=0 wed(0,0,0)=1 wed(0,0,0)=2 wed(0,0,0)=3 count(3)=4 wed(0,0,0)=-5 wed(1,5,6)=-5 count(3)=4 "
            + "of(1,5,1)=0 count(11)=2 status()=-5 jilt(3)=3 wed(1,5,6)=3 of(1,5,1)=1 status()=0");
        promise(5, "A WEDDING is off, those behind it move up: how many are left");
        for (int gone = 0; gone < 4; gone++) {
            RedGlass x = calls("wed(1,0,9) wed(2,10,19) wed(3,20,29) wed(4,30,39)");
            calls(x, "jilt(" + gone + ")=3 count(3)=3 status()=0");
            for (int rock = 1; rock <= 4; rock++) {
                int is = rock - 1 == gone ? 0 : 1;
                calls(x, "of(" + rock + "," + (rock * 10 - 10) + ",1)=" + is + " goes(" + rock + ",0," + (rock * 10 - 1) + ")="
                    + (1 - is));
            }
            calls(x, "jilt(3)=-2 jilt(2)=2 jilt(2)=-2 jilt(0)=1 jilt(0)=0 jilt(0)=-2 count(3)=0 wed(5,5,5)=0");
        }
        promise(5, "two on one ROCK: the other one is still on");
        calls("wed(1,0,9) wed(1,5,14) jilt(0)=1 of(1,4,1)=0 of(1,5,1)=1 goes(1,0,4)=1 goes(1,0,5)=0 jilt(0)=0 goes(1,0,5)=1");
    }

    private static void feeding() {
        promise(6, "Twenty bytes come behind the TAPE: how many it has");
        RedGlass x = new RedGlass();
        for (int i = 1; i <= 20; i++) {
            calls(x, "feed(0,0,0,0,0)=" + 20 * i + " count(7)=" + 20 * i);
        }
        promise(6, "NONE, if there would be more than 400");
        calls(x, "feed(0,0,0,0,0)=-1 count(7)=400 end(399)=399 feed(0,0,0,0,0)=-1 count(7)=399 end(381)=381 "
            + "feed(0,0,0,0,0)=-1 count(7)=381 end(380)=380 feed(0,0,0,0,0)=400 end(0)=0 feed(0,0,0,0,0)=20");
        promise(6, "four of each number, the highest first");
        x = calls("feed(50462976,117835012,185207048,252579084,319951120)=20 end(1)=1 row()=1 storm(3,0)=1 storm(0,0)=0");
        x = calls("feed(66051,67438087,134810123,202182159,269554195)=20 row()=20 spray()=0 count(1)=20 storm(19,1)=1 "
            + "storm(20,1)=0");
        for (int n = 1; n <= 20; n++) {
            x = calls("feed(66051,67438087,134810123,202182159,269554195)=20 end(" + n + ")=" + n + " row()=" + n);
            calls(x, "storm(" + (n - 1) + ",1)=1 storm(" + n + ",1)=0");
        }
        promise(6, "numbers below 0");
        calls("feed(-1,-1,-1,-1,-1)=20 row()=0 spray()=20");
        calls("feed(-2147483648,2147483647,-256,-16777216,255) row()=1 spray()=10 storm(0,1)=1");
        promise(6, "behind what stands there");
        x = calls(write(new RedGlass(), "ba"), "feed(1920147488,538976288,538976288,538976288,538976288)=22 law()=0");
        calls(x, "fault()=-1 status()=0");
    }

    private static void ending() {
        promise(7, "The TAPE has its first n bytes alone: n");
        calls("end(0)=0 end(1)=-1 feed(16909060,0,0,0,0)=20 end(20)=20 end(21)=-1 count(7)=20 end(3)=3 count(7)=3 end(4)=-1 "
            + "end(3)=3 row()=3 count(1)=3 storm(1,1)=1 storm(3,1)=1 storm(4,1)=0 end(0)=0 end(1)=-1 end(-1)=-1");
        RedGlass x = write(new RedGlass(), "\u0005\u0006\u0007");
        calls(x, "end(1)=1 feed(134744072,134744072,134744072,134744072,134744072)=21 row()=2 storm(5,1)=1 storm(6,1)=0 "
            + "storm(8,1)=1");
        promise(7, "it is not REFUSED: status() and counts stay");
        calls("unrow()=-3 end(5)=-1 status()=-3 end(0)=0 status()=-3 count(8)=0 feed(0,0,0,0,0)=20 status()=-3");
    }

    private static void rows() {
        promise(8, "-6 the TAPE is empty");
        calls("row()=-6 status()=-6 count(12)=1 feed(0,0,0,0,0) end(0)=0 row()=-6 count(12)=2");
        promise(8, "the TAPE's bytes are NIGHTS that are STORMY; others are SPRAY");
        calls(write(new RedGlass(), "\u003b"), "row()=1 spray()=0 storm(59,1)=1 count(1)=1");
        calls(write(new RedGlass(), "\u003c"), "row()=0 spray()=1 count(1)=0 status()=0");
        calls(write(new RedGlass(), "\u0000"), "row()=1 spray()=0 storm(0,1)=1 count(1)=1");
        calls(write(new RedGlass(), "\u00ff"), "row()=0 spray()=1 count(1)=0");
        calls(write(new RedGlass(), "\u007f\u0080"), "row()=0 spray()=2 count(1)=0");
        StringBuilder all = new StringBuilder();
        for (int sign = 0; sign < 256; sign++) {
            all.append((char) sign);
        }
        calls(write(new RedGlass(), all.toString()), "row()=60 spray()=196 count(1)=60 count(7)=0 storm(0,1)=1 storm(59,1)=1");
        promise(8, "how many NIGHTS became STORMY that were not");
        calls(write(calls("storm(4,1)"), "\u0004\u0005\u0005\u0006"), "row()=2 count(1)=3 spray()=0 count(7)=0 row()=-6");
        calls(write(new RedGlass(), "\u0009".repeat(400)), "row()=1 count(1)=1 spray()=0 count(7)=0");
        promise(8, "NIGHTS are STORMY then");
        RedGlass asked = calls(under("danger 5+storm"), "of(0,7,0)=5 goes(0,1,7)=1 goes(0,1,8)=1 reach(0,7,1)=8");
        calls(write(asked, "\u0007"), "row()=1 of(0,7,0)=6 goes(0,1,7)=0 goes(0,1,8)=1 reach(0,7,1)=9 of(0,8,0)=5");
        promise(9, "How many bytes were SPRAY in the latest row() that was not REFUSED (0 ahead of any)");
        calls("spray()=0 row()=-6 spray()=0");
        RedGlass x = calls(write(new RedGlass(), "z".repeat(400)), "spray()=0 row()=0 spray()=400 row()=-6 spray()=400");
        calls(write(x, "\u0001"), "spray()=400 row()=1 spray()=0");
        calls(write(x, "zz"), "law()=-6 spray()=0 row()=-6 spray()=0");
        calls(write(x, "zz"), "row()=0 spray()=2 terms(0,4) spray()=2 image(0) back(0) spray()=2");
    }

    private static void nights() {
        promise(16, "A NIGHT goes by: the NIGHT then");
        RedGlass x = new RedGlass();
        for (int night = 1; night <= 59; night++) {
            calls(x, "oar(" + night % 9 + ")=" + night + " count(5)=" + night + " count(6)=" + night % 9);
        }
        promise(16, "-3 NIGHT 59");
        calls(x, "oar(5)=-3 oar(4)=-3 oar(0)=-3 count(10)=3 status()=-3 count(5)=59 oar(9)=-2 oar(-1)=-2 count(9)=2");
        promise(18, "Where the GLASS was in a NIGHT till now");
        for (int night = 0; night <= 59; night++) {
            calls(x, "trail(" + night + ")=" + night % 9);
        }
        calls(x, "trail(60)=-1 trail(-1)=-1 unrow()=4 trail(59)=-1 trail(58)=4 oar(4)=59 trail(59)=4");
        promise(16, "or stays (there), whatever is on");
        calls(under("bars"), "oar(1)=-3 oar(0)=1 storm(1,1) oar(0)=2 wed(0,2,2) oar(0)=3 oar(8)=-3 count(5)=3");
        promise(16, "-3 no boat GOES");
        calls("storm(0,1) oar(1)=-3 oar(0)=1 oar(1)=2 wed(1,2,3) oar(0)=-3 oar(1)=3 oar(0)=-3 oar(1)=4 oar(0)=5");
        calls(under("bars if to=3;bars if rock=4"), "oar(3)=-3 oar(4)=1 oar(5)=-3 oar(3)=-3 oar(4)=2");
        promise(16, "one ROCK alone");
        calls("terms(0,1) oar(0)=1 oar(1)=-2 oar(0)=2 trail(2)=0 unwarned()=0");
    }

    private static void rowedBack() {
        promise(17, "The latest NIGHT is rowed back: the ROCK on which it is then");
        RedGlass x = new RedGlass();
        for (int night = 1; night <= 59; night++) {
            x.oar(night * 5 % 9);
        }
        for (int night = 58; night >= 0; night--) {
            calls(x, "unrow()=" + night * 5 % 9 + " count(5)=" + night + " trail(" + (night + 1) + ")=-1");
        }
        promise(17, "-3 it is NIGHT 0");
        calls(x, "unrow()=-3 status()=-3 count(10)=1 count(5)=0 count(6)=0 trail(0)=0 oar(3)=1 unrow()=0 unrow()=-3");
        promise(17, "even if no boat GOES any more");
        calls("oar(3) storm(0,1) unrow()=0 oar(3)=-3");
        calls("oar(3) wed(0,0,59) wed(3,0,59) unrow()=0");
    }

    private static void unwarned() {
        promise(19, "DANGER UNWARNED in all NIGHTS till now (this one, too)");
        RedGlass x = under("danger rock+night", 3);
        calls(x, "unwarned()=3 oar(2)=1 unwarned()=6 oar(2)=2 unwarned()=11 unrow()=2 unwarned()=6 unrow()=0 unwarned()=3");
        x = new RedGlass();
        for (int night = 1; night <= 59; night++) {
            x.oar(night % 2);
        }
        calls(x, "unwarned()=480");
        x = under("danger 1000");
        for (int night = 1; night <= 59; night++) {
            x.oar(8);
        }
        calls(x, "unwarned()=47520 force(-1) unwarned()=480 unrow()=8 unwarned()=472");
        calls(under("danger 0"), "unwarned()=0 oar(1) unwarned()=0");
        calls("terms(0,1) unwarned()=0 oar(0) unwarned()=0 terms(0,2) unwarned()=1");
        promise(19, "as the LAW, STORMS, MOOD are now");
        calls(under("danger 3*storm+mood", 2), "unwarned()=0 oar(1) storm(0,1) unwarned()=3 terms(1,2) unwarned()=7");
    }

    private static void reports() {
        promise(20, "REPORTS, 16 at most: how many there are; -5");
        RedGlass x = new RedGlass();
        for (int i = 1; i <= 16; i++) {
            calls(x, "report(" + i % 9 + "," + (i * 3 + 11) + "," + i % 2 + ")=" + i + " count(4)=" + i);
        }
        calls(x, "report(0,0,0)=-5 status()=-5 count(11)=1 count(4)=16 report(0,59,1)=-5 could(59)=383 report(9,0,0)=-2 "
            + "report(9,60,0)=-1 burn(15)=15 report(0,59,1)=16 status()=0 could(59)=1");
        promise(20, "the same once more is one more");
        calls("report(3,9,1)=1 report(3,9,1)=2 report(3,9,0)=3 lies()=1 liars(0)=4");
        promise(21, "A REPORT goes, those behind it move up: how many are left");
        for (int gone = 0; gone < 4; gone++) {
            x = calls("report(1,10,1) report(2,20,1) report(3,30,1) report(4,40,1) burn(" + gone + ")=3 count(4)=3");
            for (int rock = 1; rock <= 4; rock++) {
                calls(x, "could(" + 10 * rock + ")=" + (rock - 1 == gone ? 511 : 1 << rock));
            }
            calls(x, "burn(3)=-2 burn(2)=2 burn(2)=-2 burn(0)=1 burn(0)=0 burn(0)=-2 could(10)=511 could(40)=511");
        }
        x = new RedGlass();
        for (int i = 0; i < 16; i++) {
            x.report(i % 9, 5, 1);
        }
        for (int left = 15; left >= 0; left--) {
            calls(x, "burn(0)=" + left + " count(4)=" + left);
        }
        calls(x, "burn(0)=-2 could(5)=511 report(4,5,1)=1 could(5)=16");
    }

    private static void weights() {
        promise(30, "The WEIGHT of a CELL at sea: what it was");
        RedGlass x = new RedGlass();
        for (int cell = 0; cell < 12; cell++) {
            calls(x, "sea(" + cell + "," + (88 + cell) + ")=0");
        }
        for (int cell = 0; cell < 12; cell++) {
            calls(x, "sea(" + cell + ",99)=" + (88 + cell) + " sea(" + cell + ",0)=99 sea(" + cell + ",0)=0");
        }
        calls(x, "search(0,1)=-1 sea(11,1)=0 search(0,1)=1 sea(11,0)=1 search(0,0)=-1");
    }

    private static void counts() {
        promise(36, "0 ROCKS .. 7 bytes of the TAPE, 13 the LAW in FORCE, 14, 15 MOOD, SURE");
        RedGlass x = new RedGlass();
        write(x, "danger 1").law();
        write(x, "danger 2").law();
        write(x, "danger 3").law();
        calls(x, "terms(0,7) terms(1,6) terms(2,55) storm(1,1) storm(2,1) storm(7,1) storm(59,1) wed(0,8,9) wed(1,8,9)");
        calls(x, "report(1,1,1) oar(4) oar(4) oar(4) oar(5) oar(5) feed(0,0,0,0,0) end(17) force(1)");
        calls(x, "count(0)=7 count(1)=4 count(2)=3 count(3)=2 count(4)=1 count(5)=5 count(6)=5 count(7)=17 count(13)=1 "
            + "count(14)=6 count(15)=55");
        calls(x, "oar(2) count(5)=6 count(6)=2 force(-1)=1 count(13)=-1 force(2) count(13)=2");
    }

    private static void refusalCounts() {
        promise(36, "8 .. 12 how many calls were REFUSED by -1, -2, -3, -5, -6");
        String[] calls = {"terms(9,9)=-1", "storm(60,0)=-1", "wed(0,1,0)=-1", "wed(9,0,0)=-2", "jilt(4)=-2", "force(1)=-2",
            "oar(9)=-2", "oar(1)=-3", "report(0,60,0)=-1", "report(9,0,0)=-2", "burn(16)=-2", "sea(12,0)=-1",
            "year(-1,0)=-1", "year(0,9)=-2", "image(2)=-1", "back(2)=-1", "back(0)=-2", "law()=-6", "row()=-6", "unrow()=-3",
            "wed(0,0,0)=-5", "report(0,0,0)=-5"};
        int[] reasons = {-1, -2, -3, -5, -6};
        RedGlass x = new RedGlass();
        for (int i = 0; i < 4; i++) {
            x.wed(0, 0, 59);
        }
        for (int i = 0; i < 16; i++) {
            x.report(0, 0, 1);
        }
        int[] counts = new int[5];
        for (String call : calls) {
            int why = Integer.parseInt(call.substring(call.indexOf('=') + 1));
            calls(x, call + " status()=" + why);
            for (int i = 0; i < 5; i++) {
                counts[i] += reasons[i] == why ? 1 : 0;
                due("count(" + (8 + i) + ") behind " + call, x.count(8 + i), counts[i]);
            }
        }
        promise(36, "answers NONE, and answers that are that number, are not REFUSED");
        calls("goes(0,0,0)=-1 of(9,0,0)=-1 will(0,0,0)=-1 trail(1)=-1 could(60)=-1 likely(60,0)=-1 liars(2)=-1 "
            + "round(9,0,0,0)=-1 reach(9,0,0)=-1 guard(9,0,0,0)=-1 search(0,0)=-1 drawn(0)=-1 count(99)=-1 end(1)=-1 "
            + "fault()=-1 force(-1)=-1 status()=0 count(8)=0 count(9)=0 count(10)=0 count(11)=0 count(12)=0");
    }

    private static void statuses() {
        promise(37, "0 ahead of any, 0 if it was not REFUSED");
        calls("status()=0 feed(0,0,0,0,0) status()=0 count(16)=-1 status()=0");
        promise(37, "What the latest call of terms .. back was REFUSED by");
        String[] refused = {"terms(0,0)=-1", "storm(0,2)=-1", "wed(9,0,0)=-2", "jilt(0)=-2", "row()=-6", "law()=-6",
            "force(0)=-2", "oar(9)=-2", "unrow()=-3", "report(9,0,0)=-2", "burn(0)=-2", "sea(12,0)=-1", "year(0,9)=-2",
            "image(2)=-1", "back(0)=-2"};
        for (String call : refused) {
            String why = call.substring(call.indexOf('=') + 1);
            calls(call + " status()=" + why + " status()=" + why + " feed(0,0,0,0,0)=20 end(0)=0 goes(0,0,0)=-1 lies()=0 "
                + "search(9,9)=-1 drawn(0)=-1 round(0,0,0,-1)=0 fault() spray()=0 unwarned()=8 status()=" + why
                + " storm(0,0)=0 status()=0");
        }
        promise(37, "0 if it was not");
        String[] taken = {"terms(0,9)=9", "storm(0,1)=0", "wed(0,0,0)=1", "jilt(0)=0", "row()=1", "law()=-6", "force(-1)=-1",
            "oar(1)=2", "unrow()=0", "report(0,0,0)=2", "burn(0)=0", "sea(0,0)=0", "year(0,0)", "image(0)=0", "back(1)=0"};
        for (String call : taken) {
            calls("wed(1,1,1) report(1,1,1) oar(1) image(1) feed(0,0,0,0,0)=20 sea(12,0)=-1 status()=-1 " + call + " status()="
                + (call.startsWith("law") ? -6 : 0) + " count(8)=1");
        }
        calls(write(calls("unrow()=-3"), "bars"), "status()=-3 law()=0 status()=0");
        promise(37, "0 if the answer was as low, but not REFUSED");
        calls("unrow()=-3 force(-1)=-1 status()=0");
    }

    /** What was asked once is asked anew when something changed that it hangs on. */
    private static void askedAgain() {
        promise(24, "as all stands now");
        RedGlass x = calls(stormAllBut(calls(under("bars if mood=9"), "terms(0,2)"), 3), "ways()=4 storm(4,0) ways()=8");
        calls(x, "storm(4,1) ways()=4 wed(0,3,3)=0 ways()=3 wed(1,3,3)=1 ways()=2 jilt(0)=1 ways()=3 jilt(0)=0 ways()=4");
        calls(x, "terms(1,9) ways()=2 force(-1)=0 ways()=4 force(0)=-1 ways()=2 terms(1,0) ways()=4 report(0,0,1)=1 ways()=2");
        calls(x, "report(0,0,0)=2 ways()=4 lies()=1 liars(1)=3 burn(1)=1 ways()=2 lies()=0 liars(1)=0 likely(0,0)=1 burn(0)=0");
        calls(x, "image(0) ways()=4 likely(0,0)=3 storm(5,0) ways()=8 back(0) ways()=4 terms(0,3) ways()=9 terms(0,1) ways()=1");
        calls(x, "back(0) ways()=4");
        calls(write(x, "\u0003"), "row()=1 ways()=2 back(0)=0 ways()=4 storm(59,0) ways()=4 oar(0) ways()=4 unrow() ways()=4");
        promise(14, "as all stands now");
        x = calls(under("danger 10*rock+mood+20*storm"), "of(1,0,0)=10 terms(1,3) of(1,0,0)=13 storm(0,1) of(1,0,0)=33 image(1)");
        calls(x, "storm(0,0) of(1,0,0)=13 back(1) of(1,0,0)=33 force(-1) of(1,0,0)=1 force(0) of(1,0,0)=33 terms(0,2) of(1,0,0)=33");
        calls(x, "storm(59,1) of(1,59,0)=33 terms(1,4) of(1,59,0)=34 force(-1) of(1,59,0)=1 back(1) of(1,59,0)=13");
        promise(27, "as all stands now");
        calls("round(0,0,3,-1)=1 wed(0,0,0) round(0,0,3,-1)=2 storm(1,1) round(0,0,3,-1)=3 jilt(0) round(0,0,3,-1)=1");
        promise(29, "as all stands now");
        calls(under("danger rock+mood", 2), "guard(0,0,1,-1)=1 storm(0,1) guard(0,0,1,-1)=2 terms(1,1) guard(0,0,1,-1)=4");
        promise(31, "as all stands now");
        calls("sea(0,9) search(1,0)=450 terms(2,10) search(1,0)=90 sea(1,10) search(1,0)=100 search(1,2)=1");
    }
}
