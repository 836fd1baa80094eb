import java.util.ArrayList;
import java.util.List;

/** The language of the LAWS: what can stand where, its limits, and what it tells at its edges. */
public final class TextsTest extends Due {
    private static final List<String> CLAUSE_STARTS = List.of("danger", "will", "bars");
    private static final List<String> PART_STARTS = List.of("7", "[", "rock", "to", "night", "storm", "mood", "far");
    private static final List<String> OPERATIONS = List.of("+", "-", "*", "/");
    private static final List<String> COMPARISONS = List.of("<", ">", "=");
    /** The last of these stand in no rule. */
    private static final List<String> TOKENS = List.of("danger", "will", "bars", "if", "or", "and", "not", "rock", "to",
        "night", "storm", "mood", "far", "7", "+", "-", "*", "/", "<", ">", "=", ";", "(", ")", "[", "]",
        "1001", "x", "rocks", "roc", "Rock", ",", ".", ":", "{", "}", "!", "&", "\t", "\n", "\u0000", "\u00a0", "\u00ff");

    public static void main(String[] args) {
        whatCanGoOn();
        tokens();
        numbers();
        clauses();
        parts();
        brackets();
        lengths();
        faults();
        sixLaws();
        words();
        ring();
        broken();
        cutTowardsZero();
        holds();
        told();
        end();
    }

    /** Which TOKENS can stand behind what stands before, and whether it can end there. */
    @SafeVarargs
    private static void goesOn(String before, boolean canEnd, List<String>... next) {
        List<String> allowed = new ArrayList<>();
        for (List<String> some : next) {
            allowed.addAll(some);
        }
        for (String token : TOKENS) {
            boolean can = allowed.contains(token);
            String start = before.isEmpty() ? "" : before + " ";
            faulty(start + token + " ~", can ? start.length() + token.length() + 1 : start.length());
        }
        if (canEnd) {
            good(before);
        } else {
            faulty(before, before.length());
        }
    }

    private static void whatCanGoOn() {
        promise(11, "CLAUSE {\";\" CLAUSE}");
        goesOn("", false, CLAUSE_STARTS);
        goesOn("bars ;", false, CLAUSE_STARTS);
        promise(11, "CLAUSE: ((\"danger\" | \"will\") SUM | \"bars\") [\"if\" TEST]");
        goesOn("danger", false, PART_STARTS);
        goesOn("will", false, PART_STARTS);
        goesOn("bars", true, List.of("if", ";"));
        for (String done : new String[] {"danger 1", "will 1", "danger 1 + 1", "will 1 / 1", "danger [ 1 ]", "will rock"}) {
            goesOn(done, true, OPERATIONS, List.of("if", ";"));
        }
        List<String> tests = List.of("not", "(");
        promise(11, "TEST: BOTH {\"or\" BOTH}. BOTH: PLAIN {\"and\" PLAIN}");
        for (String before : new String[] {"bars if", "danger 1 if", "will 1 if", "bars if 1 < 1 or", "bars if 1 < 1 and",
            "bars if not", "bars if not not", "bars if (", "bars if not (", "bars if ( 1 < 1 or", "bars if ( ( 1 < 1 and"}) {
            goesOn(before, false, tests, PART_STARTS);
        }
        promise(11, "PLAIN: \"not\" PLAIN | \"(\" TEST \")\" | SUM (\"<\" | \">\" | \"=\") SUM");
        goesOn("bars if 1", false, OPERATIONS, COMPARISONS);
        goesOn("bars if ( [ 1 ]", false, OPERATIONS, COMPARISONS);
        for (String sign : COMPARISONS) {
            goesOn("bars if 1 " + sign, false, PART_STARTS);
            goesOn("bars if 1 " + sign + " 1", true, OPERATIONS, List.of("and", "or", ";"));
        }
        goesOn("bars if ( 1 < 1", false, OPERATIONS, List.of("and", "or", ")"));
        goesOn("bars if ( 1 < 1 )", true, List.of("and", "or", ";"));
        goesOn("bars if ( ( 1 < 1 )", false, List.of("and", "or", ")"));
        promise(11, "SUM: TERM {(\"+\" | \"-\") TERM}. TERM: PART {(\"*\" | \"/\") PART}");
        for (String sign : OPERATIONS) {
            goesOn("danger 1 " + sign, false, PART_STARTS);
            goesOn("bars if 1 = 1 " + sign, false, PART_STARTS);
        }
        promise(11, "PART: NUMBER | \"[\" SUM \"]\" | words");
        goesOn("danger [", false, PART_STARTS);
        goesOn("danger [ 1", false, OPERATIONS, List.of("]"));
        goesOn("bars if ( [ [ 1 ]", false, OPERATIONS, List.of("]"));
    }

    private static void tokens() {
        promise(10, "TOKENS: longest rows of letters a .. z, of digits, single other bytes, any blanks between");
        good("danger1+2*[3]if1<2and(rock>to)or not 7=8");
        faulty("danger 1 if 1<2andnot(rock>to)", 15);
        good("bars;bars;danger 1;will 2if mood=3");
        good("   bars   if   1   =   1   ");
        good("danger7if night=1or 2=2");
        faulty("dangerrock", 0);
        faulty("dan ger 1", 0);
        faulty("danger 1if 1=1and1=1or1 =1x", 26);
        faulty("danger 1 0", 9);
        faulty("bars ifrock=1", 5);
        faulty("danger1x", 7);
        faulty("DANGER 1", 0);
        faulty("bARS", 0);
        faulty("danger rocK", 7);
        faulty("danger Rock", 7);
        faulty("danger farZ", 10);
        faulty("bars if 1=1 AND 2=2", 12);
        faulty("bars`", 4);
        faulty("bars{", 4);
        faulty("danger 1:", 8);
        faulty("danger /1", 7);
        faulty("bars if 1<=1", 10);
        faulty("bars if 1==1", 10);
        for (int sign = 0; sign < 256; sign++) {
            String text = "bars" + (char) sign;
            if (sign == ' ') {
                good(text);
            } else if (sign == ';') {
                faulty(text, 5);
            } else {
                faulty(text, sign >= 'a' && sign <= 'z' ? 0 : 4);
            }
        }
        for (char digit = '0'; digit <= '9'; digit++) {
            good("danger 1" + digit);
            good("danger " + digit + "1");
        }
        promise(10, "a word is all of its letters, and no more");
        String[] before = {"", "", "", "bars ", "bars if 1=1 ", "bars if 1=1 ", "bars if "};
        String[] words = {"danger", "will", "bars", "if", "or", "and", "not"};
        for (int i = 0; i < words.length; i++) {
            misspelled(before[i], words[i]);
        }
        for (String part : PART_STARTS.subList(2, PART_STARTS.size())) {
            misspelled("danger ", part);
        }
    }

    private static void misspelled(String before, String word) {
        for (int i = 0; i < word.length(); i++) {
            String behind = word.substring(i + 1);
            faulty(before + word.substring(0, i) + "z" + behind, before.length());
            faulty(before + word.substring(0, i) + behind + " ~", before.length());
        }
        faulty(before + word + "a", before.length());
        faulty(before + "a" + word, before.length());
    }

    private static void numbers() {
        promise(10, "NUMBER (to 1,000)");
        for (String number : new String[] {"0", "1", "9", "10", "99", "999", "1000", "00", "0001", "01000", "0001000"}) {
            good("danger " + number);
        }
        for (String number : new String[] {"1001", "1002", "1010", "1100", "2000", "9999", "10000", "01001", "2147483648",
            "4294967296", "4294967297", "18446744073709551616", "9".repeat(300)}) {
            faulty("danger " + number, 7);
            faulty("bars if 1 = 2 + " + number, 16);
        }
    }

    private static void clauses() {
        promise(10, "CLAUSE {\";\" CLAUSE}, 12 at most (FAULT at the 13th's first TOKEN)");
        for (int many = 1; many <= 12; many++) {
            good("bars" + ";bars".repeat(many - 1));
            good("will 1 if 1=1" + "; danger 2".repeat(many - 1));
        }
        faulty("bars" + ";bars".repeat(12), 60);
        faulty("bars" + ";bars".repeat(13), 60);
        faulty("bars" + ";bars".repeat(11) + ";  danger x", 62);
        faulty("bars" + ";bars".repeat(11) + "; x", 61);
        faulty("bars" + ";bars".repeat(11) + ";  ", 62);
        faulty("bars" + ";bars".repeat(10) + ";bars if;bars", 62);
        RedGlass x = under("danger 5" + ";bars if 1=2".repeat(10) + ";will 6");
        calls(x, "of(0,0,0)=5 will(0,1,0)=6 goes(0,1,0)=1");
    }

    private static void parts() {
        promise(10, "50 PARTS that are NUMBERS and words (FAULT at the 51st)");
        for (String part : new String[] {"1", "rock", "to", "night", "storm", "mood", "far", "[1]"}) {
            String more = "+" + part;
            good("danger " + part + more.repeat(49));
            faulty("danger " + part + more.repeat(50), ("danger " + part + more.repeat(49)).length()
                + more.indexOf(part.replace("[", "").replace("]", "")));
        }
        good("bars if 1=1" + " or 1=1".repeat(24));
        faulty("bars if 1=1" + " or 1=1".repeat(25), 11 + 24 * 7 + 4);
        faulty("danger 1;bars if 1=1" + " or 1=1".repeat(24), 20 + 23 * 7 + 6);
        good("danger 1" + "+1".repeat(24) + ";will 1" + "+1".repeat(24));
        faulty("danger 1" + "+1".repeat(24) + ";will 1" + "+1".repeat(25), 56 + 7 + 48 + 1);
        faulty("danger 1" + "+1".repeat(49) + ";bars if 1=1", 106 + 9);
        good("danger 1" + "+1".repeat(49) + ";bars");
        faulty("danger 1" + "+1".repeat(49) + "+[[1]]", 106 + 3);
        faulty("danger 1" + "+1".repeat(49) + "+1001", 106 + 1);
        RedGlass x = under("danger 1" + "+1".repeat(49));
        calls(x, "of(0,0,0)=50");
        promise(10, "50 PARTS: of each TEXT");
        write(x, "danger 2" + "+1".repeat(49));
        calls(x, "law()=1 force(1)=0 of(0,0,0)=51");
    }

    private static void brackets() {
        promise(10, "8 brackets of both kinds within one another (FAULT at the 9th)");
        for (int round = 0; round <= 8; round++) {
            String open = "bars if " + "(".repeat(round) + "[".repeat(8 - round);
            String close = "]".repeat(8 - round) + "=1" + ")".repeat(round);
            good(open + "1" + close);
            faulty("bars if " + "(".repeat(round) + "[".repeat(9 - round) + "1", 16);
            faulty(open + "(1", 16);
        }
        faulty("bars if " + "(".repeat(9) + "1=1", 16);
        faulty("bars if (((1=1 and ((((([1", 24);
        good("danger " + "[".repeat(8) + "1" + "]".repeat(8) + "+" + "[".repeat(8) + "2" + "]".repeat(8));
        good("bars if " + "(".repeat(8) + "1=1" + ")".repeat(8) + " or " + "(".repeat(8) + "1=1" + ")".repeat(8));
        good("bars if " + "(".repeat(7) + "[1]=[2] and [3]=[4]" + ")".repeat(7) + ";bars if [[[[[[[[1]]]]]]]]=1");
        faulty("danger " + "[".repeat(8) + "1+[1", 17);
        good("danger " + "[".repeat(7) + "1+[1]+[2]" + "]".repeat(7));
        faulty("danger [[1]", 11);
        faulty("danger [1]]", 10);
        faulty("bars if ((1=1)", 14);
        faulty("bars if (1=1))", 13);
        faulty("bars if ([1)=1]", 11);
        calls(under("danger " + "[2*[".repeat(4) + "1+1" + "]]".repeat(4)), "of(0,0,0)=32");
        calls(under("danger 9 if " + "not (".repeat(8) + "1=1" + ")".repeat(8)), "of(0,0,0)=9");
        calls(under("danger 9 if " + "not (".repeat(7) + "1=1" + ")".repeat(7)), "of(0,0,0)=1");
        promise(14, "8 brackets, with all that waits in front of them");
        calls(under("danger " + "1+1*[".repeat(8) + "1+1*1" + "]".repeat(8)), "of(0,0,0)=10");
        String ten = "1+1*[".repeat(8) + "1+1*1" + "]".repeat(8);
        calls(under("danger 5 if 10+0*0=" + ten), "of(0,0,0)=5");
        calls(under("danger 5 if " + "1=2 or ".repeat(14) + "10=" + ten), "of(0,0,0)=5");
        calls(under("danger 5 if " + "1=1 and ".repeat(14) + "10=" + ten), "of(0,0,0)=5");
    }

    private static void lengths() {
        promise(10, "TEXTS on a TAPE of at most 400 bytes: the longest, the shortest, none");
        good("bars");
        good("bars" + " ".repeat(396));
        good(" ".repeat(396) + "bars");
        good("bars if " + "not ".repeat(97) + "1=1 ");
        faulty("bars if " + "not ".repeat(98), 400);
        faulty("+".repeat(400), 0);
        faulty("(".repeat(400), 0);
        faulty("a".repeat(400), 0);
        faulty("bars " + "b".repeat(395), 5);
        faulty("danger " + "0".repeat(392) + "x", 399);
        good("danger " + "0".repeat(393));
        good("danger " + "0".repeat(389) + "1000");
        faulty("danger " + "0".repeat(389) + "1001", 7);
        promise(10, "-6 (blanks alone: FAULT at the end)");
        for (int blanks : new int[] {0, 1, 2, 19, 20, 21, 399, 400}) {
            faulty(" ".repeat(blanks), blanks);
        }
        promise(10, "The TAPE becomes a LAW: its first bytes alone, if it was ended");
        RedGlass x = write(new RedGlass(), "bars bars");
        calls(x, "end(4)=4 law()=0 fault()=-1 count(7)=0");
        write(x, "dangerous");
        calls(x, "end(6)=6 law()=-6 fault()=6");
        write(x, "danger 1000000");
        calls(x, "end(11)=11 law()=1");
        write(write(x, "dang"), "er 6");
        calls(x, "law()=2 force(2)=-1 of(0,0,0)=6");
        promise(10, "TEXTS that could not be leave nothing behind for the next one");
        for (int i = 0; i < 10; i++) {
            calls(write(x, "danger 1" + "+1".repeat(49) + ";bars;x"), "law()=-6 fault()=112");
        }
        calls(write(x, "danger 3;will 1" + "+1".repeat(48)), "law()=3 force(3)=2 of(0,0,0)=3 will(0,1,0)=49 goes(0,1,0)=1");
    }

    private static void faults() {
        promise(11, "NONE without");
        calls("fault()=-1 row()=-6 fault()=-1 law()=-6 fault()=0");
        promise(11, "FAULT of the latest law() that read a TEXT");
        RedGlass x = write(new RedGlass(), "bars x");
        calls(x, "fault()=-1 law()=-6 fault()=5 feed(0,0,0,0,0)=20 fault()=5 row()=1 fault()=5 law()=-6 fault()=0");
        calls(write(x, "bars"), "fault()=0 law()=0 fault()=-1");
        calls(write(x, " x"), "law()=-6 fault()=1 terms(0,3) fault()=1 image(0) fault()=1 back(0) fault()=1");
        promise(11, "the end's: the TEXT's length");
        faulty("danger", 6);
        faulty("danger   ", 9);
        faulty("bars ;   ", 9);
        faulty("bars if 1 < 2 and  ", 19);
        promise(11, "the first TOKEN that can't go on: where it begins");
        faulty("   x", 3);
        faulty("bars    rock", 8);
        faulty("bars if 1 = 1    )", 17);
        faulty("bars x y z", 5);
    }

    private static void sixLaws() {
        promise(10, "LAWS are TEXTS, 6 at most: its number; -5 ahead of reading it");
        RedGlass x = new RedGlass();
        for (int i = 0; i < 6; i++) {
            calls(write(x, "danger 1" + i), "count(2)=" + i + " law()=" + i);
            calls(write(x, "danger ?"), i < 5 ? "law()=-6 fault()=7" : "law()=-5 fault()=-1");
        }
        calls(x, "count(2)=6 count(11)=1 count(12)=5");
        calls(write(x, "bars"), "law()=-5 status()=-5 count(7)=0 count(2)=6 fault()=-1");
        calls(x, "law()=-5 count(11)=3 fault()=-1");
        for (int i = 0; i < 6; i++) {
            calls(x, "force(" + i + ")=" + (i - 1) + " of(0,0,0)=1" + i);
        }
        promise(12, "NONE: none, no CLAUSE");
        calls(x, "force(-1)=5 of(0,0,0)=1 will(0,1,0)=1 goes(0,1,0)=1 count(13)=-1 force(-1)=-1 force(6)=-2 count(13)=-1");
        calls(x, "force(5)=-1 force(5)=5 force(-2)=-2 count(13)=5 of(0,0,0)=15");
    }

    private static void words() {
        promise(14, "asked of a ROCK and a NIGHT; to, far -1 both");
        RedGlass x = under("danger rock*7+night/6+[to+1]*50+[far+1]*50");
        for (int rock = 0; rock < 9; rock++) {
            for (int night : new int[] {0, 5, 6, 58, 59}) {
                calls(x, "of(" + rock + "," + night + ",0)=" + (rock * 7 + night / 6));
            }
        }
        calls(under("danger 30+to"), "of(0,0,0)=29 of(8,59,0)=29");
        calls(under("danger 30+far"), "of(0,0,0)=29 of(8,59,0)=29");
        promise(14, "storm: 1 or 0");
        x = under("danger 40+storm");
        calls(x, "of(0,0,0)=40 storm(0,1) of(0,0,0)=41 of(0,1,0)=40 storm(59,1) of(8,59,0)=41 storm(0,0) of(0,0,0)=40");
        promise(14, "mood");
        calls(under("danger 40+mood"), "of(0,0,0)=40 terms(1,9) of(0,0,0)=49 of(8,59,0)=49 terms(1,0) of(0,0,0)=40");
        promise(15, "rock, to, night, storm, mood of a boat");
        x = under("will rock*10+to");
        for (int from = 0; from < 9; from++) {
            for (int to = 0; to < 9; to++) {
                calls(x, "will(" + from + "," + to + ",58)=" + (from == to ? -1 : from * 10 + to));
            }
        }
        calls(under("will night"), "will(0,1,0)=0 will(0,1,58)=58 will(8,7,57)=57");
        calls(under("will 9+storm"), "will(0,1,0)=9 storm(0,1) will(0,1,0)=10 will(0,1,1)=9");
        calls(under("will 9+mood"), "will(0,1,0)=9 terms(1,9) will(0,1,0)=18");
        promise(13, "rock, to, night, mood of a boat");
        x = under("bars if rock*10+to=37;bars if night=58 and to=0;bars if mood=9 and rock=8");
        calls(x, "goes(3,7,0)=0 goes(7,3,0)=1 goes(3,6,0)=1 goes(1,0,58)=0 goes(1,0,57)=1 goes(0,1,58)=1");
        calls(x, "goes(8,1,0)=1 terms(1,9) goes(8,1,0)=0 goes(1,8,0)=1 terms(1,8) goes(8,1,0)=1");
    }

    private static void ring() {
        promise(15, "how far (ROCKS lie in a ring: the fewer of both ways round)");
        for (int rocks = 2; rocks <= 9; rocks++) {
            RedGlass x = under("will far", rocks);
            for (int from = 0; from < rocks; from++) {
                for (int to = 0; to < rocks; to++) {
                    int up = (to - from + rocks) % rocks;
                    int down = (from - to + rocks) % rocks;
                    calls(x, "will(" + from + "," + to + ",0)=" + (from == to ? -1 : Math.min(up, down)));
                }
            }
        }
        calls(under("will far"), "will(0,8,0)=1 will(8,0,0)=1 will(0,4,0)=4 will(0,5,0)=4 will(4,0,0)=4");
        calls(under("will far", 8), "will(0,4,0)=4 will(0,5,0)=3 will(0,7,0)=1 will(7,0,0)=1");
        calls(under("will far", 2), "will(0,1,0)=1 will(1,0,0)=1");
        promise(13, "far of a boat");
        calls(under("bars if far=1", 9), "goes(0,8,0)=0 goes(8,0,0)=0 goes(0,1,0)=0 goes(0,7,0)=1 terms(0,8) goes(0,7,0)=0");
    }

    /** DANGER 5 if a SUM is not BROKEN. */
    private static void sum(String sum, boolean isBroken) {
        calls(under("danger 5; danger [" + sum + "]*0+7"), "of(0,0,0)=" + (isBroken ? 5 : 7));
        calls(under("danger 5; danger 7 if " + sum + "=0 or 1=1"), "of(0,0,0)=" + (isBroken ? 5 : 7));
        calls(under("danger 5; danger 7 if 1=1 and not 1=[" + sum + "]*0"),
            "of(0,0,0)=" + (isBroken ? 5 : 7));
        calls(under("will 5; will [" + sum + "]*0+7"), "will(0,1,0)=" + (isBroken ? 5 : 7));
        calls(under("bars if [" + sum + "]*0=0"), "goes(0,1,0)=" + (isBroken ? 1 : 0));
        calls(under("bars if not [" + sum + "]*0=1"), "goes(0,1,0)=" + (isBroken ? 1 : 0));
    }

    private static void broken() {
        String most = "1000*1000*1000";
        promise(14, "Beyond 1,000,000,000 either way a SUM, a TEST is BROKEN");
        sum(most, false);
        sum(most + "-1", false);
        sum(most + "+0", false);
        sum(most + "+1", true);
        sum("1+" + most, true);
        sum("0-" + most, false);
        sum("0-" + most + "-0", false);
        sum("0-" + most + "-1", true);
        sum("[0-1]*" + most, false);
        sum("[0-1]-" + most, true);
        sum(most + "*1", false);
        sum(most + "*2", true);
        sum(most + "*[0-1]", false);
        sum(most + "*[0-2]", true);
        sum("[" + most + "-[0-" + most + "]]", true);
        sum(most + "/1", false);
        sum(most + "/[0-1]", false);
        sum("1000*1000*1000*1000", true);
        sum("1000*1000*1000*1000*1000*1000*1000*1000*0", true);
        sum("999*1000*1000+1000*1000", false);
        sum("999*1000*1000+1000*1000+1", true);
        sum("1000*1000*999+1000*1000-1+1", false);
        promise(14, "divided by 0 a SUM, a TEST is BROKEN");
        sum("1/0", true);
        sum("0/0", true);
        sum("1/[1-1]", true);
        sum("1/[rock-rock]", true);
        sum("0/1", false);
        sum("1/[0-1]", false);
        sum("1/2/0", true);
        sum("0*1/0", true);
        sum("5/[1/2]", true);
        promise(14, "divided by 0, of a ROCK, a NIGHT");
        calls(under("danger 60/rock"), "of(0,0,0)=1 of(1,0,0)=60 of(2,0,0)=30 of(8,0,0)=7");
        calls(under("danger 60/night"), "of(0,0,0)=1 of(0,1,0)=60 of(0,59,0)=1 of(0,31,0)=1 of(0,30,0)=2");
        calls(under("danger 9/storm"), "of(0,0,0)=1 storm(0,1) of(0,0,0)=9");
        calls(under("will 9/mood"), "will(0,1,0)=1 terms(1,9) will(0,1,0)=1 terms(1,3) will(0,1,0)=3");
    }

    private static void cutTowardsZero() {
        promise(14, "/ is cut towards 0");
        String[][] cases = {{"7", "2", "3"}, {"[0-7]", "2", "-3"}, {"7", "[0-2]", "-3"}, {"[0-7]", "[0-2]", "3"},
            {"1", "2", "0"}, {"[0-1]", "2", "0"}, {"1", "[0-2]", "0"}, {"6", "3", "2"}, {"[0-6]", "3", "-2"},
            {"7", "1", "7"}, {"7", "[0-1]", "-7"}, {"[0-7]", "[0-1]", "7"}, {"999", "1000", "0"},
            {"[0-999]", "1000", "0"}, {"1000", "1000", "1"}, {"0", "[0-3]", "0"}};
        for (String[] one : cases) {
            int want = 50 + Integer.parseInt(one[2]);
            calls(under("danger 50+" + one[0] + "/" + one[1]), "of(0,0,0)=" + want);
            calls(under("will 50+" + one[0] + "/" + one[1]), "will(0,1,0)=" + want);
        }
        promise(14, "SUM, TERM: from the left");
        calls(under("danger 50-7-2"), "of(0,0,0)=41");
        calls(under("danger 50-7+2"), "of(0,0,0)=45");
        calls(under("danger 90/9/3"), "of(0,0,0)=3");
        calls(under("danger 90/9*3"), "of(0,0,0)=30");
        calls(under("danger 3*90/9"), "of(0,0,0)=30");
        calls(under("danger 7/2*2"), "of(0,0,0)=6");
        calls(under("danger 50+7/2*2-4*3"), "of(0,0,0)=44");
        calls(under("danger 50-[7-2]"), "of(0,0,0)=45");
    }

    /** DANGER 7 if a TEST is so, 5 if it is not, or is BROKEN. */
    private static void test(String test, boolean isSo) {
        calls(under("danger 5; danger 7 if " + test), "of(0,0,0)=" + (isSo ? 7 : 5));
        calls(under("bars if " + test), "goes(0,1,0)=" + (isSo ? 0 : 1));
        calls(under("will 7 if " + test + ";danger 3"), "will(0,1,0)=" + (isSo ? 7 : 1));
    }

    private static void holds() {
        promise(14, "\"<\" | \">\" | \"=\"");
        for (int left = 0; left <= 2; left++) {
            test(left + "<1", left < 1);
            test(left + ">1", left > 1);
            test(left + "=1", left == 1);
            test("[0-" + left + "]<[0-1]", left > 1);
        }
        promise(14, "\"or\", \"and\", \"not\"");
        for (int bits = 0; bits < 8; bits++) {
            boolean a = (bits & 1) != 0;
            boolean b = (bits & 2) != 0;
            boolean c = (bits & 4) != 0;
            String first = a ? "1<2" : "2<1";
            String second = b ? "2>1" : "1>2";
            String third = c ? "1=1" : "1=2";
            test(first + " or " + second + " and " + third, a || b && c);
            test(first + " and " + second + " or " + third, a && b || c);
            test(first + " or " + second + " or " + third, a || b || c);
            test(first + " and " + second + " and " + third, a && b && c);
            test("(" + first + " or " + second + ") and " + third, (a || b) && c);
            test(first + " and (" + second + " or " + third + ")", a && (b || c));
            test("not " + first + " and " + second + " or " + third, !a && b || c);
            test("not (" + first + " and " + second + " or " + third + ")", !(a && b || c));
            test("not " + first + " or not not " + second + " and not " + third, !a || b && !c);
        }
        promise(14, "(\"or\", \"and\" ask what stands behind only if it can still matter)");
        for (String broken : new String[] {"1/0=1", "1000*1000*1000+1>0", "(1/0=1 or 1=1)", "not 1/0=1"}) {
            stillMatters("1=1", "1=2", broken);
            stillMatters("1<2", "2<2", broken);
            stillMatters("2>1", "1>1", broken);
            stillMatters("not 1=2", "not 1=1", broken);
            stillMatters("(1=1)", "(2>3)", broken);
        }
    }

    private static void stillMatters(String so, String not, String broken) {
        test(so + " or " + broken, true);
        test(so + " or " + broken + " or " + broken, true);
        test(so + " or " + so + " and " + broken, true);
        test(so + " or " + broken + " and " + so, true);
        test(not + " or " + so + " or " + broken, true);
        test("not (" + not + " and " + broken + ")", true);
        test(not + " and " + broken + " or " + so, true);
        test(not + " and " + so + " and " + broken + " or " + so, true);
        test("(" + so + " or " + broken + ") and " + so, true);
        test(not + " or " + broken, false);
        test(so + " and " + broken, false);
        test("not (" + so + " and " + broken + ")", false);
        test(not + " and " + broken, false);
        test(broken + " or " + so, false);
        test(broken + " and " + not + " or " + so, false);
        test("not (" + broken + " and " + not + ")", false);
        test(not + " or " + broken + " or " + so, false);
        test(so + " and " + broken + " or " + so, false);
        test("(" + so + " or " + broken + ") and " + broken, false);
        test("not " + broken, false);
    }

    private static void told() {
        promise(14, "0 .. 99 (else the nearest), 1 without");
        String[][] cases = {{"0-1", "0"}, {"0", "0"}, {"1", "1"}, {"98", "98"}, {"99", "99"}, {"100", "99"},
            {"1000*1000*1000", "99"}, {"1000*1000*1000-1", "99"}, {"1000*1000*1000-2", "99"}, {"0-1000*1000*1000", "0"},
            {"1-1000*1000*1000", "0"}, {"0-99", "0"}};
        for (String[] one : cases) {
            calls(under("danger " + one[0]), "of(0,0,0)=" + one[1] + " of(8,59,0)=" + one[1] + " will(0,1,0)=1");
        }
        calls(under("will 9;bars"), "of(0,0,0)=1");
        calls(under("danger 9 if 1=2"), "of(0,0,0)=1");
        calls(under("danger 9/0"), "of(0,0,0)=1");
        promise(14, "the last \"danger\" that HOLDS");
        calls(under("danger 3;danger 4;will 5;bars"), "of(0,0,0)=4");
        calls(under("danger 4;danger 3"), "of(0,0,0)=3");
        calls(under("danger 3;danger 4 if night>5;danger 6 if night>9"), "of(0,5,0)=3 of(0,6,0)=4 of(0,9,0)=4 of(0,10,0)=6");
        calls(under("danger 3;danger 4/night;danger 7 if 1/night=0"), "of(0,0,0)=3 of(0,1,0)=4 of(0,2,0)=7");
        calls(under("danger 3 if night=7;danger 9 if night=8"), "of(0,7,0)=3 of(0,8,0)=9 of(0,9,0)=1");
        promise(14, "BROKEN is a CLAUSE alone, not those behind it");
        calls(under("danger 1/0;danger 4"), "of(0,0,0)=4");
        calls(under("bars if 1/0=1;danger 1/0 if 1/0=1;will 6;danger 4 if 1=1;bars if to=2"),
            "of(0,0,0)=4 will(0,1,0)=6 goes(0,1,0)=1 goes(0,2,0)=0");
        promise(15, "0 .. 99, 1 without");
        for (String[] one : cases) {
            calls(under("will " + one[0]), "will(0,1,0)=" + one[1] + " will(8,7,58)=" + one[1] + " of(0,0,0)=1");
        }
        calls(under("danger 9;bars if 1=2"), "will(0,1,0)=1");
        calls(under("will 9 if 1=2"), "will(0,1,0)=1");
        calls(under("will 3;will 4;danger 5;will 6 if night>5;will 7/0"), "will(0,1,5)=4 will(0,1,6)=6");
        promise(15, "whether the boat GOES or not");
        calls(under("will 9;bars"), "goes(0,1,0)=0 will(0,1,0)=9 storm(0,1) will(0,1,0)=9 wed(0,0,0) will(0,1,0)=9");
        promise(13, "BARRED, if \"bars\" HOLDS: any of them");
        calls(under("bars;danger 1"), "goes(0,1,0)=0 goes(8,7,58)=0");
        calls(under("bars if to=1;bars if to=2;bars if 1=2"), "goes(0,1,0)=0 goes(0,2,0)=0 goes(0,3,0)=1");
        calls(under("bars if 1=2;bars if to=1"), "goes(0,1,0)=0 goes(0,2,0)=1");
    }
}
