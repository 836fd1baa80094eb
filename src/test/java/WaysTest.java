/** WAYS at their edges: what COULD be, LIES, how many, the first; ROUND, REACH, GUARD. */
public final class WaysTest extends Due {
    private static final long MOST_WAYS = 1_000_000_000_000L;
    private static final String NEIGHBOURS = "bars if far>1";

    public static void main(String[] args) {
        goes();
        could();
        lies();
        ways();
        waysAroundTheMost();
        likely();
        firstWay();
        liars();
        roundNight();
        roundWay();
        roundSets();
        reach();
        guardLeast();
        guardWay();
        end();
    }

    private static void goes() {
        promise(13, "A boat GOES in a NIGHT 0 .. 58, if it is not STORMY, no WEDDING is on the first ROCK, not BARRED");
        calls("goes(0,1,0)=1 goes(0,1,58)=1 goes(0,1,59)=-1 goes(8,0,0)=1 goes(0,8,58)=1");
        calls("storm(5,1) goes(0,1,4)=1 goes(0,1,5)=0 goes(8,7,5)=0 goes(0,1,6)=1");
        calls("wed(2,5,5) goes(2,0,5)=0 goes(2,8,5)=0 goes(0,2,5)=1 goes(1,2,5)=1 goes(2,0,4)=1 goes(2,0,6)=1");
        calls(under("bars if rock=2 and night=5"), "goes(2,0,5)=0 goes(0,2,5)=1 goes(2,0,4)=1 goes(2,0,6)=1");
        calls(under("bars if night=58"), "goes(2,0,58)=0 goes(2,0,57)=1 goes(2,0,59)=-1");
    }

    private static void could() {
        promise(22, "ROCKS on which the GLASS COULD be, as bits: all without REPORTS");
        for (int rocks = 1; rocks <= 9; rocks++) {
            int all = (1 << rocks) - 1;
            calls("terms(0," + rocks + ") could(0)=" + all + " could(30)=" + all + " could(59)=" + all);
        }
        promise(22, "it shone red (1: the GLASS was there), or it did not (0: it was not)");
        for (int night : new int[] {0, 30, 59}) {
            calls("report(8," + night + ",1) could(" + night + ")=256 could(29)=511 could(58)=511");
            calls("report(8," + night + ",0) could(" + night + ")=255 could(29)=511 could(58)=511");
            calls("report(0," + night + ",1) could(" + night + ")=1");
            calls("report(0," + night + ",0) report(1," + night + ",0) could(" + night + ")=508");
        }
        promise(22, "if some WAY has it there by which all REPORTS are so: both before and behind them");
        RedGlass x = calls(under(NEIGHBOURS), "report(4,30,1)=1");
        calls(x, "could(30)=16 could(29)=56 could(31)=56 could(28)=124 could(32)=124 could(27)=254 could(33)=254 could(26)=511 "
            + "could(0)=511 could(59)=511");
        calls(x, "report(0,34,1)=2 could(31)=8 could(32)=4 could(33)=2 could(34)=1 could(35)=259");
        calls(x, "report(0,33,1)=3 could(33)=0 could(0)=0 could(59)=0 could(30)=0 burn(2)=2 could(33)=2");
        calls(under("bars"), "report(7,59,1) could(0)=128 could(58)=128 report(6,0,0) could(0)=128 report(7,0,0) could(0)=0");
        promise(22, "WAYS are from any ROCK, whatever was rowed");
        calls("oar(3) oar(4) could(0)=511 could(1)=511 could(2)=511");
        promise(22, "one ROCK");
        calls("terms(0,1) could(0)=1 report(0,9,1) could(9)=1 report(0,9,0) could(9)=0 could(0)=0");
    }

    private static void lies() {
        promise(23, "The FEWEST LIES: none without REPORTS");
        calls("lies()=0 terms(0,1) lies()=0");
        calls("report(0,0,1) lies()=0 report(0,0,0) lies()=1 report(0,0,0) lies()=1 report(0,0,1) lies()=2");
        promise(23, "The FEWEST LIES: all 16");
        RedGlass x = calls("terms(0,1)");
        for (int i = 1; i <= 16; i++) {
            calls(x, "report(0," + (i * 7 % 60) + ",0)=" + i + " lies()=" + i);
        }
        calls(x, "could(0)=0 likely(0,0)=1 ways()=1 liars(0)=65535 liars(1)=65535");
        promise(23, "REPORTS of the first and the last NIGHT");
        calls(under("bars"), "report(3,0,1) report(4,59,1) lies()=1 report(4,58,1) lies()=1 report(3,1,1) lies()=2");
        calls("report(3,0,1) report(4,59,1) lies()=0 report(3,59,0) lies()=0 report(4,59,0) lies()=1");
        promise(23, "a boat of NIGHT 58 is the last");
        calls(stormAllBut(new RedGlass(), 58), "report(0,58,1) report(1,59,1) lies()=0 report(2,57,1) lies()=1");
        calls(stormAllBut(new RedGlass(), 59), "report(0,58,1) report(1,59,1) lies()=1");
    }

    private static void ways() {
        promise(24, "In how many WAYS of the FEWEST LIES: from any ROCK, of all NIGHTS 0 .. 59");
        for (int rocks = 1; rocks <= 9; rocks++) {
            RedGlass x = stormAllBut(calls("terms(0," + rocks + ")"));
            calls(x, "ways()=" + rocks + " storm(58,0) ways()=" + rocks * rocks + " storm(59,0) ways()=" + rocks * rocks
                + " storm(0,0) ways()=" + rocks * rocks * rocks);
        }
        calls("terms(0,1) ways()=1");
        calls(under("bars"), "ways()=9 report(0,5,1) ways()=1 report(0,5,0) ways()=9 report(1,5,0) ways()=8");
        calls(stormAllBut(new RedGlass(), 7), "report(0,7,1) ways()=9 report(0,8,1) ways()=1 report(0,8,0) ways()=9 "
            + "report(0,8,0) ways()=8");
        calls(stormAllBut(new RedGlass(), 7), "wed(0,7,7) ways()=73 wed(1,6,6) ways()=73 wed(1,7,7) ways()=65");
    }

    private static void waysAroundTheMost() {
        promise(24, "1,000,000,000,000 at most");
        String fives = "bars if night>10 and not (to=rock+1 or to=rock-4)";
        calls(under(fives + ";bars if night>21", 5), "ways()=" + MOST_WAYS / 2);
        RedGlass x = under(fives + ";bars if night>22", 5);
        calls(x, "ways()=" + MOST_WAYS + " report(0,59,0) ways()=" + MOST_WAYS / 5 * 4 + " report(0,59,1) ways()=" + MOST_WAYS
            + " burn(1) burn(0) ways()=" + MOST_WAYS + " wed(0,22,22) ways()=" + MOST_WAYS / 10 * 9);
        calls(under(fives + ";bars if night>22;bars if night=22 and to=0", 5), "ways()=" + MOST_WAYS / 10 * 9);
        calls(under(fives + ";bars if night>23;bars if night=23 and not to=0", 5), "ways()=" + MOST_WAYS);
        calls(under(fives + ";bars if night>23", 5), "ways()=" + MOST_WAYS + " report(0,0,1) ways()=" + MOST_WAYS / 5 * 2);
        calls("ways()=" + MOST_WAYS + " terms(0,2) ways()=" + MOST_WAYS + " report(0,0,1) ways()=" + MOST_WAYS);
        x = calls("terms(0,2)");
        for (int night = 38; night < 60; night++) {
            x.storm(night, 1);
        }
        calls(x, "ways()=549755813888 storm(38,0) ways()=" + MOST_WAYS + " report(0,0,1) ways()=549755813888 "
            + "report(1,0,1) ways()=" + MOST_WAYS + " storm(38,1) ways()=549755813888");
    }

    private static void likely() {
        promise(25, "LIKELY in a NIGHT, if some WAY of the fewest has it there");
        for (int rocks = 1; rocks <= 9; rocks++) {
            int all = (1 << rocks) - 1;
            calls("terms(0," + rocks + ") likely(0,0)=" + all + " likely(59,0)=" + all + " likely(0,1)=0 likely(59,1)=0");
        }
        calls("report(3,10,1) report(5,10,1) likely(10,0)=40 likely(9,0)=511 could(10)=0 report(5,10,1) likely(10,0)=32");
        calls("report(0,0,1) report(8,0,1) likely(0,0)=257 likely(1,0)=511 report(0,59,0) likely(59,0)=510 likely(58,0)=511");
        RedGlass x = calls(under(NEIGHBOURS), "report(0,10,1) report(4,12,1) likely(10,0)=125 likely(12,0)=407");
        calls(x, "likely(11,0)=315 report(4,12,1) likely(12,0)=16 likely(10,0)=124 likely(11,0)=56 lies()=1");
        calls("terms(0,1) report(0,0,0) report(0,59,0) likely(0,0)=1 likely(59,0)=1 likely(30,1)=0");
    }

    private static void firstWay() {
        promise(25, "the first such WAY as a row of ROCKS");
        calls("report(8,0,1) likely(0,1)=8 likely(1,1)=0 likely(59,1)=0");
        calls("report(8,59,1) likely(0,1)=0 likely(58,1)=0 likely(59,1)=8");
        calls("report(0,0,0) report(1,0,0) likely(0,1)=2 likely(1,1)=0 report(0,59,0) likely(59,1)=1 likely(58,1)=0");
        calls(under("bars"), "report(0,59,0) report(1,59,0) likely(0,1)=2 likely(30,1)=2 likely(59,1)=2");
        promise(25, "the first NIGHT counts most, also if it costs lower ROCKS behind");
        RedGlass x = calls(under(NEIGHBOURS), "report(4,6,1)=1");
        int[] way = {0, 0, 0, 1, 2, 3, 4, 3, 2, 1, 0, 0};
        for (int night = 0; night < way.length; night++) {
            asked(x, "likely(" + night + ",?)", 1, way[night]);
        }
        x = calls(under("bars if night=3 and rock<5;bars if night=3 and to<8"), "report(8,4,1) likely(0,1)=0 likely(2,1)=0");
        calls(x, "likely(3,1)=5 likely(4,1)=8 likely(5,1)=0 likely(3,0)=480");
        promise(25, "of the fewest LIES alone");
        calls("report(0,5,1) report(6,5,1) report(6,5,1) likely(5,1)=6 likely(4,1)=0 likely(6,1)=0");
        calls("report(5,5,1) report(6,5,1) likely(5,1)=5 likely(5,0)=96");
    }

    private static void liars() {
        promise(26, "REPORTS that are LIES for SURE (0), that are LIES in some of these WAYS (1): none");
        calls("liars(0)=0 liars(1)=0 report(0,0,1) liars(0)=0 liars(1)=0");
        promise(26, "as bits: the lowest, the highest");
        RedGlass x = new RedGlass();
        calls(x, "report(1,9,1)=1");
        for (int i = 2; i <= 15; i++) {
            calls(x, "report(0,9,1)=" + i);
        }
        calls(x, "liars(0)=1 liars(1)=1 report(1,9,1)=16 liars(0)=32769 liars(1)=32769 burn(0)=15 liars(0)=16384");
        promise(26, "in all of them, in some");
        calls("report(1,9,1) report(2,9,1) liars(0)=0 liars(1)=3 report(3,9,1) liars(0)=0 liars(1)=7");
        calls("report(1,9,1) report(1,9,0) liars(0)=0 liars(1)=3 report(1,9,1) liars(0)=2 liars(1)=2");
        calls("report(1,9,1) report(2,9,1) report(1,9,1) liars(0)=2 liars(1)=2 burn(0)=2 liars(0)=0 liars(1)=3");
        calls(under("bars"), "report(1,0,1) report(2,30,1) report(1,59,1) liars(0)=2 liars(1)=2 report(2,59,1) liars(0)=0 "
            + "liars(1)=15 report(1,58,0) liars(0)=5 liars(1)=5");
        calls("terms(0,1) report(0,0,0) report(0,59,1) liars(0)=1 liars(1)=1");
    }

    private static void roundNight() {
        promise(27, "all told ROCKS (bits) have had the GLASS (that one, too)");
        calls("round(0,0,0,-1)=0 round(0,0,1,-1)=0 round(8,0,256,-1)=0 round(8,0,257,-1)=1 round(0,0,3,-1)=1 round(0,0,2,-1)=1");
        calls("round(0,0,511,-1)=8 round(0,0,510,-1)=8 round(0,0,509,-1)=7 round(4,0,495,-1)=8 round(4,20,511,-1)=28");
        calls("round(0,59,0,-1)=59 round(0,59,1,-1)=59 round(0,59,2,-1)=-1 round(0,58,2,-1)=59 round(0,58,6,-1)=-1");
        promise(27, "NONE (never)");
        calls("round(0,51,511,-1)=59 round(0,52,511,-1)=-1 round(0,52,511,0)=-1 round(0,52,510,7)=-1 round(0,52,255,-1)=59");
        calls(under("bars if to=8"), "round(0,0,256,-1)=-1 round(0,0,256,0)=-1 round(8,0,257,-1)=1 round(0,0,255,-1)=7");
        calls(under("bars"), "round(3,0,8,-1)=0 round(3,0,0,-1)=0 round(3,0,9,-1)=-1");
        promise(27, "the earliest NIGHT: STORMS, WEDDINGS");
        calls("storm(0,1) storm(2,1) round(0,0,7,-1)=4 storm(2,0) round(0,0,7,-1)=3 wed(0,0,59) round(0,0,7,-1)=-1 "
            + "round(1,0,7,-1)=3 round(2,0,3,-1)=3");
        calls(stormAllBut(new RedGlass(), 58), "round(0,0,2,-1)=59 round(0,0,6,-1)=-1 round(0,59,2,-1)=-1");
        calls(stormAllBut(new RedGlass(), 59), "round(0,0,2,-1)=-1 round(0,0,1,-1)=0");
        calls(stormAllBut(new RedGlass(), 0, 58), "round(0,0,6,-1)=59 round(0,1,6,-1)=-1 round(1,1,6,-1)=59");
    }

    private static void roundWay() {
        promise(27, "the WAY till then: the first as a row");
        way("round(0,0,0,?)", new RedGlass(), 0);
        way("round(5,7,32,?)", new RedGlass(), 5);
        way("round(5,59,32,?)", new RedGlass(), 5);
        way("round(5,7,1,?)", new RedGlass(), 5, 0);
        way("round(5,7,511,?)", new RedGlass(), 5, 0, 1, 2, 3, 4, 6, 7, 8);
        way("round(5,51,511,?)", new RedGlass(), 5, 0, 1, 2, 3, 4, 6, 7, 8);
        way("round(8,0,384,?)", new RedGlass(), 8, 7);
        way("round(8,0,128,?)", calls("storm(0,1) storm(1,1)"), 8, 8, 8, 7);
        way("round(8,0,128,?)", calls("wed(8,0,1)"), 8, 8, 8, 7);
        promise(27, "it may go by lower ROCKS that are not told, if that is as early");
        way("round(5,0,256,?)", under("bars if to=8 and night<2"), 5, 0, 0, 8);
        way("round(5,0,288,?)", under("bars if to=8 and night<2"), 5, 0, 0, 8);
        way("round(0,0,16,?)", under(NEIGHBOURS), 0, 1, 2, 3, 4);
        way("round(0,0,32,?)", under(NEIGHBOURS), 0, 8, 7, 6, 5);
        way("round(0,0,48,?)", under(NEIGHBOURS), 0, 1, 2, 3, 4, 5);
        way("round(0,0,260,?)", under(NEIGHBOURS), 0, 8, 0, 1, 2);
        way("round(0,0,258,?)", under(NEIGHBOURS), 0, 1, 0, 8);
        way("round(0,0,386,?)", under(NEIGHBOURS), 0, 1, 0, 8, 7);
    }

    private static void way(String call, RedGlass x, int... rocks) {
        String[] words = call.split("[(,]");
        asked(x, call, -1, Integer.parseInt(words[2]) + rocks.length - 1);
        for (int i = 0; i < rocks.length; i++) {
            asked(x, call, i, rocks[i]);
        }
        asked(x, call, rocks.length, -1);
        asked(x, call, -2, -1);
    }

    /** Each set of told ROCKS, of each number of ROCKS: with all boats, as many NIGHTS as there are others. */
    private static void roundSets() {
        promise(27, "told ROCKS (bits): each set of them");
        for (int rocks = 1; rocks <= 9; rocks++) {
            for (int from = 0; from < 1 << rocks; from += 128) {
                RedGlass x = calls("terms(0," + rocks + ")");
                for (int told = from; told < Math.min(from + 128, 1 << rocks); told++) {
                    int rock = told % rocks;
                    int others = told & ~(1 << rock);
                    int last = Integer.bitCount(others);
                    asked(x, "round(" + rock + ",3," + told + ",?)", -1, 3 + last);
                    int end = last == 0 ? rock : 31 - Integer.numberOfLeadingZeros(others);
                    asked(x, "round(" + rock + ",3," + told + ",?)", last, end);
                }
            }
            calls("terms(0," + rocks + ") round(0,0," + (1 << rocks) + ",-1)=-1 round(0,0,-1,-1)=-1");
        }
    }

    private static void reach() {
        promise(28, "the earliest NIGHT by which it can be on a ROCK");
        calls("reach(0,0,0)=0 reach(0,0,8)=1 reach(8,0,0)=1 reach(5,59,5)=59 reach(5,59,4)=-1 reach(5,58,4)=59 reach(5,58,5)=58");
        calls(under(NEIGHBOURS), "reach(0,0,4)=4 reach(0,0,5)=4 reach(0,0,8)=1 reach(0,55,4)=59 reach(0,56,4)=-1 reach(0,56,3)=59");
        calls(under("bars if not to=rock+1"), "reach(0,0,8)=8 reach(8,0,0)=-1 reach(0,51,8)=59 reach(0,52,8)=-1");
        calls(under("bars"), "reach(0,0,0)=0 reach(0,0,1)=-1 reach(7,59,7)=59");
        calls("terms(0,1) reach(0,0,0)=0 reach(0,59,0)=59 reach(0,0,1)=-1");
        promise(28, "STORMS, WEDDINGS: it stays till then");
        calls("storm(0,1) storm(1,1) reach(0,0,1)=3 reach(0,1,1)=3 reach(0,2,1)=3 reach(0,3,1)=4 reach(0,0,0)=0");
        calls("wed(0,0,57) reach(0,0,1)=59 reach(1,0,0)=1 wed(0,58,58) reach(0,0,1)=-1 reach(0,0,0)=0");
        calls(stormAllBut(new RedGlass(), 58), "reach(0,0,1)=59 reach(0,58,1)=59 reach(0,59,1)=-1");
        calls(stormAllBut(new RedGlass(), 59), "reach(0,0,1)=-1 reach(0,0,0)=0");
        calls(under("bars if night<30"), "reach(0,0,1)=31 reach(0,29,1)=31 reach(0,30,1)=31 reach(0,31,1)=32");
    }

    private static void guardLeast() {
        promise(29, "UNWARNED from NIGHT a to b: the DANGER of all ROCKS in those NIGHTS but that where the GLASS is");
        calls("guard(0,0,0,-1)=8 guard(0,0,59,-1)=480 guard(8,59,59,-1)=8 guard(8,58,59,-1)=16");
        calls("terms(0,1) guard(0,0,59,-1)=0 guard(0,59,59,0)=0");
        calls(under("danger 1000"), "guard(0,0,59,-1)=47520 guard(0,0,0,-1)=792");
        calls(under("danger 0"), "guard(0,0,59,-1)=0 guard(5,0,59,0)=5 guard(5,0,59,1)=0");
        calls(under("danger rock"), "guard(0,0,0,-1)=36 guard(0,0,1,-1)=64 guard(8,0,1,-1)=56 guard(0,58,59,-1)=64");
        calls(under("danger night", 3), "guard(0,0,0,-1)=0 guard(0,59,59,-1)=118 guard(0,0,59,-1)=3540");
        promise(29, "by which that is least: by boats that GO");
        calls(under("danger rock;bars"), "guard(0,0,1,-1)=72 guard(8,0,1,-1)=56");
        calls(under("danger rock"), "storm(0,1) guard(0,0,1,-1)=72 guard(0,0,2,-1)=100 storm(1,1) guard(0,0,2,-1)=108");
        calls(under("danger rock"), "wed(0,0,0) guard(0,0,2,-1)=100 wed(0,59,59) guard(0,58,59,-1)=64");
        promise(29, "a STORM in NIGHT b itself is no matter, but for DANGER");
        calls(under("danger rock"), "storm(1,1) guard(0,0,1,-1)=64 guard(0,1,1,-1)=36");
        calls(under("danger rock*[storm+1]"), "storm(1,1) guard(0,0,1,-1)=92 guard(0,0,0,-1)=36");
        promise(29, "on paper: whatever was rowed");
        calls("oar(3) oar(4) guard(0,0,2,-1)=24 guard(0,0,2,0)=0 count(5)=2 count(6)=4");
    }

    private static void guardWay() {
        promise(29, "GUARD: the WAY by which that is least; the first");
        guarded("guard(4,0,3,?)", new RedGlass(), 4, 0, 0, 0);
        guarded("guard(4,59,59,?)", new RedGlass(), 4);
        guarded("guard(4,56,59,?)", new RedGlass(), 4, 0, 0, 0);
        guarded("guard(0,0,3,?)", under("danger rock"), 0, 8, 8, 8);
        guarded("guard(0,0,3,?)", under("danger 5;danger 9 if rock=2 and night=3"), 0, 0, 0, 2);
        guarded("guard(5,0,3,?)", under("danger 5;danger 9 if rock=2 and night=3"), 5, 0, 0, 2);
        guarded("guard(0,0,3,?)", under("danger rock;bars if far>1 or to=8"), 0, 1, 2, 3);
        guarded("guard(0,0,3,?)", under("danger rock;bars if far>1"), 0, 8, 8, 8);
        guarded("guard(3,0,3,?)", under("bars"), 3, 3, 3, 3);
        guarded("guard(3,0,2,?)", calls("storm(0,1)"), 3, 3, 0);
        guarded("guard(3,0,2,?)", calls("wed(3,0,1)"), 3, 3, 3);
        promise(29, "a step that costs now, but is worth it later");
        guarded("guard(0,0,2,?)", under("danger 2 if rock=0;danger 9 if rock=5 and night=2;bars if not far=1 and night=1", 6),
            0, 0, 5);
        guarded("guard(2,0,2,?)", under("danger 2 if rock=2;danger 9 if rock=5 and night=2;bars if not far=1 and night=1", 6),
            2, 0, 5);
    }

    private static void guarded(String call, RedGlass x, int... rocks) {
        for (int i = 0; i < rocks.length; i++) {
            asked(x, call, i, rocks[i]);
        }
        asked(x, call, rocks.length, -1);
        asked(x, call, -2, -1);
    }
}
