import java.math.BigInteger;

/** A SEARCH at sea and a YEAR by DRAWS, at their edges. */
public final class ChancesTest extends Due {
    private static final int MODULUS = 1_000_003;

    public static void main(String[] args) {
        fractions();
        oneCell();
        cells();
        nothingLeft();
        noWeights();
        seeds();
        borders();
        whoCounts();
        rocksHad();
        latestYear();
        end();
    }

    private static void fractions() {
        promise(31, "WEIGHTS times 100 multiplied by itself n times; not in lowest terms");
        RedGlass x = calls("sea(0,50) sea(1,50)");
        long lower = 100;
        for (int n = 0; n <= 6; n++) {
            calls(x, "search(" + n + ",1)=" + lower);
            lower *= 100;
        }
        calls(x, "search(0,0)=0 search(1,0)=2500 search(2,0)=500000");
        promise(31, "all of them: where it is, to the whole");
        for (int cell = 0; cell < 12; cell++) {
            calls("sea(" + cell + ",7) search(0,1)=7 search(1,0)=350 search(1,1)=700 search(1,2)=" + cell);
        }
        promise(31, "the largest numbers");
        x = new RedGlass();
        for (int cell = 0; cell < 12; cell++) {
            x.sea(cell, 99);
        }
        calls(x, "search(6,1)=1188000000000000 search(6,0)=297000000000000 terms(2,100) search(6,0)=594000000000000 "
            + "terms(2,99) search(6,0)=588060000000000 terms(2,1) search(6,0)=5940000000000 search(6,2)=5 search(0,1)=1188");
        promise(31, "the smallest");
        calls("sea(11,1) terms(2,1) search(1,0)=1 search(1,1)=100 search(0,0)=0 search(0,1)=1 search(2,0)=199");
    }

    private static void oneCell() {
        promise(31, "found there, if it is there, by SURE of a hundred; else one looks again, n times");
        for (int sure : new int[] {1, 2, 50, 99, 100}) {
            for (int weight : new int[] {1, 99}) {
                RedGlass x = calls("terms(2," + sure + ") sea(6," + weight + ")");
                for (int n = 0; n <= 6; n++) {
                    BigInteger missed = BigInteger.valueOf(100 - sure).pow(n);
                    BigInteger found = BigInteger.valueOf(100).pow(n).subtract(missed);
                    calls(x, "search(" + n + ",0)=" + found.multiply(BigInteger.valueOf(weight)));
                    calls(x, "search(" + n + ",2)=" + (n == 0 ? -1 : sure == 100 && n > 1 ? 0 : 6));
                }
            }
        }
    }

    private static void looks(RedGlass x, int... cells) {
        for (int n = 1; n <= cells.length; n++) {
            calls(x, "search(" + n + ",2)=" + cells[n - 1]);
        }
    }

    private static void cells() {
        promise(31, "always where it is likeliest then to find it");
        looks(calls("sea(0,10) sea(5,99) sea(11,40)"), 5, 5, 11, 5, 11, 5);
        looks(calls("sea(0,10) sea(5,99) sea(11,41) terms(2,1)"), 5, 5, 5, 5, 5, 5);
        looks(calls("sea(0,10) sea(5,99) sea(11,40) terms(2,99)"), 5, 11, 0, 5, 11, 0);
        looks(calls("sea(0,98) sea(11,99) terms(2,1)"), 11, 11, 0, 11, 0, 11);
        promise(31, "the lowest");
        looks(calls("sea(3,9) sea(4,9) sea(10,9)"), 3, 4, 10, 3, 4, 10);
        looks(calls("sea(3,20) sea(4,40)"), 4, 3, 4, 3, 4, 3);
        looks(calls("sea(3,40) sea(4,20)"), 3, 3, 4, 3, 4, 3);
        RedGlass x = new RedGlass();
        for (int cell = 0; cell < 12; cell++) {
            x.sea(cell, 1);
        }
        looks(x, 0, 1, 2, 3, 4, 5);
        promise(31, "exactly: a hundredth decides");
        looks(calls("sea(0,50) sea(1,98) terms(2,49)"), 1, 0, 1, 0, 1, 0);
        looks(calls("sea(0,49) sea(1,98) terms(2,50)"), 1, 0, 1, 0, 1, 0);
        looks(calls("sea(0,48) sea(1,98) terms(2,51)"), 1, 1, 0, 1, 0, 1);
        promise(31, "it only asks: the next SEARCH begins anew");
        calls("sea(0,50) sea(1,40) search(6,0) search(1,2)=0 search(2,2)=1 search(1,0)=2500 search(1,2)=0");
    }

    private static void nothingLeft() {
        promise(31, "SURE 100: what was looked into is empty");
        looks(calls("terms(2,100) sea(2,5) sea(7,9)"), 7, 2, 0, 0, 0, 0);
        calls("terms(2,100) sea(2,5) sea(7,9) search(1,0)=900 search(2,0)=140000 search(3,0)=14000000 search(3,1)=14000000 "
            + "search(6,0)=14000000000000 search(6,1)=14000000000000");
    }

    private static void noWeights() {
        promise(31, "NONE (n 0 for 2; all WEIGHTS 0)");
        calls("search(0,0)=-1 search(0,1)=-1 search(0,2)=-1 search(6,0)=-1 search(6,1)=-1 search(6,2)=-1");
        calls("sea(4,1) search(0,2)=-1 search(1,2)=4 search(0,0)=0 sea(4,0) search(0,0)=-1 search(1,2)=-1");
        calls("terms(2,100) search(1,0)=-1 sea(0,1) search(1,0)=100");
    }

    private static long next(long s) {
        return (s * 1103 + 12345) % MODULUS;
    }

    /** A YEAR with all boats, each keeper WILLS the same: where the GLASS is due by NIGHT. */
    private static int[] dueYear(int seed, int rock, int rocks, int will, boolean[] calm) {
        int[] way = new int[60];
        way[0] = rock;
        long s = seed;
        for (int night = 0; night < 59; night++) {
            s = next(s);
            int boats = calm[night] ? rocks - 1 : 0;
            long draw = s % (boats * will + 10);
            long boat = will == 0 ? boats : draw / will;
            int at = way[night];
            way[night + 1] = boat >= boats ? at : (int) boat < at ? (int) boat : (int) boat + 1;
        }
        return way;
    }

    private static void year(int seed, int rock, int rocks, int will, boolean[] calm) {
        RedGlass x = under("will " + will, rocks);
        for (int night = 0; night < 60; night++) {
            x.storm(night, calm[night] ? 0 : 1);
        }
        int[] way = dueYear(seed, rock, rocks, will, calm);
        int had = 0;
        for (int at : way) {
            had |= 1 << at;
        }
        asked(x, "year(" + seed + ",?)", rock, Integer.bitCount(had));
        for (int night = 0; night < 60; night++) {
            due("drawn(" + night + ") of year(" + seed + ", " + rock + "), ROCKS " + rocks + ", will " + will,
                x.drawn(night), way[night]);
        }
        calls(x, "drawn(60)=-1 drawn(-1)=-1");
    }

    private static boolean[] calmBut(int every) {
        boolean[] calm = new boolean[60];
        for (int night = 0; night < 60; night++) {
            calm[night] = every == 0 || night % every != 0;
        }
        return calm;
    }

    private static void seeds() {
        promise(33, "s becomes (s times 1103 and 12345) modulo 1,000,003: the SEED 0 .. 1,000,000");
        for (int seed : new int[] {0, 1, 2, 895, 896, 5000, 123456, 999_999, 1_000_000}) {
            year(seed, 0, 9, 10, calmBut(0));
            year(seed, 8, 9, 1, calmBut(0));
            year(seed, 1, 2, 24, calmBut(0));
        }
        promise(33, "s is 0 by the first DRAW, the most by it");
        for (int seed = 0; seed <= 1_000_000; seed++) {
            if (next(seed) == 0 || next(seed) == MODULUS - 1) {
                year(seed, 4, 9, 7, calmBut(0));
                year(seed, 0, 9, 99, calmBut(0));
            }
        }
        promise(33, "Each NIGHT 0 .. 58 a DRAW of the whole, in a STORM, too");
        for (int every = 2; every <= 5; every++) {
            year(77, 3, 9, 10, calmBut(every));
            year(78, 3, 4, 99, calmBut(every));
        }
        year(77, 3, 9, 10, calmBut(1));
        promise(33, "one ROCK");
        year(77, 0, 1, 10, calmBut(0));
    }

    /** With what the first DRAW of m is to be: a SEED for that. */
    private static int seedFor(int draw, int m) {
        for (int seed = 0; seed <= 1_000_000; seed++) {
            if (next(seed) % m == draw) {
                return seed;
            }
        }
        return -1;
    }

    private static void firstDraw(RedGlass x, int rock, int draw, int m, int want) {
        int seed = seedFor(draw, m);
        calls(x, "year(" + seed + "," + rock + ") drawn(0)=" + rock + " drawn(1)=" + want);
    }

    private static void borders() {
        promise(33, "by ROCKS, lower first, staying last");
        for (int will : new int[] {1, 10, 99}) {
            RedGlass x = under("will " + will);
            int whole = 8 * will + 10;
            int[] others = {0, 1, 2, 3, 5, 6, 7, 8};
            for (int i = 0; i < 8; i++) {
                firstDraw(x, 4, i * will, whole, others[i]);
                firstDraw(x, 4, i * will + will - 1, whole, others[i]);
            }
            firstDraw(x, 4, 8 * will, whole, 4);
            firstDraw(x, 4, whole - 1, whole, 4);
            firstDraw(x, 0, 0, whole, 1);
            firstDraw(x, 0, 8 * will - 1, whole, 8);
            firstDraw(x, 0, 8 * will, whole, 0);
            firstDraw(x, 8, 0, whole, 0);
            firstDraw(x, 8, 8 * will - 1, whole, 7);
            firstDraw(x, 8, 8 * will, whole, 8);
        }
        promise(33, "count by what its keeper WILLS");
        RedGlass x = under("will to*3", 4);
        int[] byDraw = {2, 2, 2, 2, 2, 2, 3, 3, 3, 3, 3, 3, 3, 3, 3, 1, 1, 1, 1, 1, 1, 1, 1, 1, 1};
        for (int draw = 0; draw < 25; draw++) {
            firstDraw(x, 1, draw, 25, byDraw[draw]);
        }
        x = under("will rock*3", 3);
        firstDraw(x, 0, 0, 10, 0);
        firstDraw(x, 1, 2, 16, 0);
        firstDraw(x, 1, 3, 16, 2);
        firstDraw(x, 1, 5, 16, 2);
        firstDraw(x, 1, 6, 16, 1);
    }

    private static void whoCounts() {
        promise(33, "all ROCKS to which a boat GOES");
        RedGlass x = under("will 10;bars if to=1;bars if to=7");
        firstDraw(x, 4, 0, 70, 0);
        firstDraw(x, 4, 10, 70, 2);
        firstDraw(x, 4, 59, 70, 8);
        firstDraw(x, 4, 60, 70, 4);
        x = calls(under("will 10"), "wed(4,0,0)");
        firstDraw(x, 4, 0, 10, 4);
        firstDraw(x, 4, 9, 10, 4);
        firstDraw(x, 3, 0, 90, 0);
        firstDraw(x, 3, 39, 90, 4);
        x = calls(under("will 10"), "storm(0,1)");
        firstDraw(x, 4, 0, 10, 4);
        firstDraw(x, 4, 5, 10, 4);
        x = under("will 0");
        firstDraw(x, 4, 0, 10, 4);
        firstDraw(x, 4, 9, 10, 4);
        x = under("bars");
        firstDraw(x, 4, 0, 10, 4);
        promise(33, "1 without a \"will\"");
        firstDraw(new RedGlass(), 4, 3, 18, 3);
        firstDraw(new RedGlass(), 4, 7, 18, 8);
        firstDraw(new RedGlass(), 4, 8, 18, 4);
    }

    private static void rocksHad() {
        promise(32, "how many ROCKS had the GLASS");
        calls("terms(0,1) year(0,0)=1");
        calls(under("bars"), "year(0,8)=1 drawn(59)=8");
        calls(under("will 99"), "year(0,0)=9 year(1000000,8)=9");
        promise(32, "in NIGHT 59, too");
        RedGlass x = stormAllBut(under("will 99;bars if to<8"), 58);
        int seed = 0;
        while (x.year(seed, 0) == 1 && seed < 50) {
            seed++;
        }
        calls(x, "year(" + seed + ",0)=2 drawn(58)=0 drawn(59)=8 storm(58,1) storm(59,0) year(" + seed + ",0)=1 drawn(59)=0");
        promise(32, "on paper: the GLASS stays where it is");
        calls("oar(3) year(7,5) count(5)=1 count(6)=3 trail(0)=0 trail(1)=3 drawn(0)=5 unwarned()=16");
    }

    private static void latestYear() {
        promise(33, "NONE: there was no YEAR");
        calls("drawn(0)=-1 drawn(59)=-1 year(-1,0)=-1 year(0,9)=-2 drawn(0)=-1");
        promise(33, "the latest YEAR");
        calls("year(0,3) drawn(0)=3 year(0,4) drawn(0)=4 year(0,9)=-2 drawn(0)=4 year(1000001,5)=-1 drawn(0)=4");
        promise(33, "IMAGES do not keep it");
        calls("image(0) year(0,3) back(0) drawn(0)=3 image(0) year(0,4) back(0) drawn(0)=4");
        promise(33, "what changes later does not change it");
        RedGlass x = calls(under("will 99"), "year(0,3)");
        int[] way = new int[60];
        for (int night = 0; night < 60; night++) {
            way[night] = x.drawn(night);
        }
        calls(x, "force(-1) storm(3,1) wed(3,0,59) terms(1,5) oar(0) sea(0,1) report(0,0,1)");
        for (int night = 0; night < 60; night++) {
            due("drawn(" + night + ")", x.drawn(night), way[night]);
        }
    }
}
