/** By promise: ordinary inputs, the edges that the document names, wrong inputs. */
public final class PromisesTest extends Due {
    public static void main(String[] args) {
        promise(1, ""); newObject();
        promise(2, ""); terms();
        promise(3, ""); storm();
        promise(4, ""); wed();
        promise(5, ""); jilt();
        promise(6, ""); feed();
        promise(7, ""); ends();
        promise(8, ""); row();
        promise(9, ""); spray();
        promise(10, ""); law();
        promise(11, ""); fault();
        promise(12, ""); force();
        promise(13, ""); goes();
        promise(14, ""); of();
        promise(15, ""); will();
        promise(16, ""); oar();
        promise(17, ""); unrow();
        promise(18, ""); trail();
        promise(19, ""); unwarned();
        promise(20, ""); report();
        promise(21, ""); burn();
        promise(22, ""); could();
        promise(23, ""); lies();
        promise(24, ""); ways();
        promise(25, ""); likely();
        promise(26, ""); liars();
        promise(27, ""); round();
        promise(28, ""); reach();
        promise(29, ""); guard();
        promise(30, ""); sea();
        promise(31, ""); search();
        promise(32, ""); year();
        promise(33, ""); drawn();
        promise(34, ""); image();
        promise(35, ""); back();
        promise(36, ""); count();
        promise(37, ""); status();
        end();
    }

    /** DANGER of ROCK 2 in NIGHT 7 (STORMY) by a LAW, MOOD 4. */
    private static void danger(String law, int want) {
        RedGlass x = under(law);
        x.storm(7, 1);
        x.terms(1, 4);
        due("of(2, 7, 0) by '" + law + "'", x.of(2, 7, 0), want);
    }

    private static void newObject() {
        RedGlass x = new RedGlass();
        int[] want = {9, 0, 0, 0, 0, 0, 0, 0, 0, 0, 0, 0, 0, -1, 0, 50};
        for (int what = 0; what < want.length; what++) {
            due("count(" + what + ")", x.count(what), want[what]);
        }
        due("NONE", RedGlass.NONE, -1);
        due("status()", x.status(), 0);
        due("fault()", x.fault(), -1);
        due("spray()", x.spray(), 0);
        due("drawn(0)", x.drawn(0), -1);
        due("trail(0)", x.trail(0), 0);
        due("search(1, 1)", x.search(1, 1), -1);
        due("back(0)", x.back(0), -2);
    }

    private static void terms() {
        RedGlass x = new RedGlass();
        due("terms(0, 1)", x.terms(0, 1), 9);
        due("terms(0, 9)", x.terms(0, 9), 1);
        due("terms(0, 0)", x.terms(0, 0), -1);
        due("terms(0, 10)", x.terms(0, 10), -1);
        due("terms(1, 9)", x.terms(1, 9), 0);
        due("terms(1, 0)", x.terms(1, 0), 9);
        due("terms(1, -1)", x.terms(1, -1), -1);
        due("terms(1, 10)", x.terms(1, 10), -1);
        due("terms(2, 1)", x.terms(2, 1), 50);
        due("terms(2, 100)", x.terms(2, 100), 1);
        due("terms(2, 0)", x.terms(2, 0), -1);
        due("terms(2, 101)", x.terms(2, 101), -1);
        due("terms(-1, 1)", x.terms(-1, 1), -1);
        due("terms(3, 1)", x.terms(3, 1), -1);
        due("count(8)", x.count(8), 8);
        beginsAnew();
    }

    private static void beginsAnew() {
        RedGlass x = under("danger 7");
        x.terms(1, 5);
        x.terms(2, 60);
        x.storm(3, 1);
        x.sea(2, 9);
        x.oar(4);
        x.oar(5);
        x.wed(1, 0, 59);
        x.report(1, 1, 1);
        due("terms(0, 9)", x.terms(0, 9), 9);
        int[] want = {9, 1, 1, 0, 0, 0, 0};
        for (int what = 0; what < want.length; what++) {
            due("count(" + what + ")", x.count(what), want[what]);
        }
        due("count(13)", x.count(13), 0);
        due("count(14)", x.count(14), 5);
        due("count(15)", x.count(15), 60);
        due("trail(0)", x.trail(0), 0);
        due("trail(1)", x.trail(1), -1);
        due("sea(2, 0)", x.sea(2, 0), 9);
        due("of(0, 0, 0)", x.of(0, 0, 0), 7);
        due("goes(1, 0, 0)", x.goes(1, 0, 0), 1);
        x.oar(4);
        x.terms(1, 1);
        due("count(6) behind terms(1, 1)", x.count(6), 4);
    }

    private static void storm() {
        RedGlass x = new RedGlass();
        due("storm(0, 1)", x.storm(0, 1), 0);
        due("storm(0, 1)", x.storm(0, 1), 1);
        due("storm(0, 0)", x.storm(0, 0), 1);
        due("storm(59, 1)", x.storm(59, 1), 0);
        due("storm(58, 1)", x.storm(58, 1), 0);
        due("count(1)", x.count(1), 2);
        due("goes(0, 1, 58)", x.goes(0, 1, 58), 0);
        due("storm(58, 0)", x.storm(58, 0), 1);
        due("goes(0, 1, 58)", x.goes(0, 1, 58), 1);
        due("storm(60, 0)", x.storm(60, 0), -1);
        due("storm(-1, 0)", x.storm(-1, 0), -1);
        due("storm(0, 2)", x.storm(0, 2), -1);
        due("storm(0, -1)", x.storm(0, -1), -1);
    }

    private static void wed() {
        RedGlass x = new RedGlass();
        due("wed(8, 5, 5)", x.wed(8, 5, 5), 0);
        due("goes(8, 0, 5)", x.goes(8, 0, 5), 0);
        due("goes(0, 8, 5)", x.goes(0, 8, 5), 1);
        due("goes(8, 0, 4)", x.goes(8, 0, 4), 1);
        due("goes(8, 0, 6)", x.goes(8, 0, 6), 1);
        due("wed(0, 0, 59)", x.wed(0, 0, 59), 1);
        due("wed(0, 59, 59)", x.wed(0, 59, 59), 2);
        due("wed(9, 6, 5)", x.wed(9, 6, 5), -1);
        due("wed(0, -1, 5)", x.wed(0, -1, 5), -1);
        due("wed(0, 0, 60)", x.wed(0, 0, 60), -1);
        due("wed(9, 0, 0)", x.wed(9, 0, 0), -2);
        due("wed(-1, 0, 0)", x.wed(-1, 0, 0), -2);
        due("wed(1, 2, 3)", x.wed(1, 2, 3), 3);
        due("wed(1, 2, 3)", x.wed(1, 2, 3), -5);
        due("wed(9, 2, 3)", x.wed(9, 2, 3), -2);
        due("wed(9, 3, 2)", x.wed(9, 3, 2), -1);
        due("count(3)", x.count(3), 4);
    }

    private static void jilt() {
        RedGlass x = new RedGlass();
        due("jilt(0)", x.jilt(0), -2);
        x.wed(1, 0, 9);
        x.wed(2, 0, 9);
        x.wed(3, 0, 9);
        due("jilt(3)", x.jilt(3), -2);
        due("jilt(-1)", x.jilt(-1), -2);
        due("goes(1, 0, 0)", x.goes(1, 0, 0), 0);
        due("jilt(0)", x.jilt(0), 2);
        due("of(1, 0, 1)", x.of(1, 0, 1), 0);
        due("of(2, 0, 1)", x.of(2, 0, 1), 1);
        due("goes(1, 0, 0)", x.goes(1, 0, 0), 1);
        due("jilt(0)", x.jilt(0), 1);
        due("of(2, 0, 1)", x.of(2, 0, 1), 0);
        due("of(3, 9, 1)", x.of(3, 9, 1), 1);
        due("wed(4, 0, 0)", x.wed(4, 0, 0), 1);
    }

    private static void feed() {
        RedGlass x = new RedGlass();
        for (int i = 1; i <= 20; i++) {
            due("feed", x.feed(0, 0, 0, 0, 0), 20 * i);
        }
        due("feed beyond", x.feed(0, 0, 0, 0, 0), -1);
        due("count(7)", x.count(7), 400);
        due("status()", x.status(), 0);
        x.end(381);
        due("feed beyond", x.feed(0, 0, 0, 0, 0), -1);
        due("count(7)", x.count(7), 381);
        x.end(380);
        due("feed", x.feed(0, 0, 0, 0, 0), 400);
        x = new RedGlass();
        x.feed(0x3A0B0C0D, 0xFFFEFDFC, -1, 0, 0x00000001);
        due("row()", x.row(), 6);
        due("spray()", x.spray(), 8);
        due("storm(58, 1)", x.storm(58, 1), 1);
        due("storm(13, 1)", x.storm(13, 1), 1);
        x.feed(0x3A0B0C0D, 0, 0, 0, 0);
        x.end(1);
        x.storm(58, 0);
        due("row() of the highest", x.row(), 1);
        due("storm(58, 1)", x.storm(58, 1), 1);
    }

    private static void ends() {
        RedGlass x = new RedGlass();
        due("end(0)", x.end(0), 0);
        due("end(1)", x.end(1), -1);
        x.feed(0x01020304, 0x05060708, 0, 0, 0);
        due("end(21)", x.end(21), -1);
        due("end(-1)", x.end(-1), -1);
        due("end(20)", x.end(20), 20);
        due("end(5)", x.end(5), 5);
        due("end(6)", x.end(6), -1);
        due("count(7)", x.count(7), 5);
        due("row()", x.row(), 5);
        due("storm(5, 1)", x.storm(5, 1), 1);
        due("storm(6, 1)", x.storm(6, 1), 0);
        due("count(8)", x.count(8), 0);
    }

    private static void row() {
        RedGlass x = new RedGlass();
        due("row()", x.row(), -6);
        x.storm(2, 1);
        write(x, "\u0000\u0001\u0002\u003b\u003b\u003c\u00ff");
        due("row()", x.row(), 3);
        due("count(7)", x.count(7), 0);
        due("count(1)", x.count(1), 4);
        due("goes(0, 1, 1)", x.goes(0, 1, 1), 0);
        due("row()", x.row(), -6);
        due("count(12)", x.count(12), 2);
        write(x, "zzz");
        due("row()", x.row(), 0);
        due("status()", x.status(), 0);
        due("spray()", x.spray(), 3);
        x = under("danger 5 if storm = 1");
        due("of(0, 3, 0)", x.of(0, 3, 0), 1);
        write(x, "\u0003");
        due("row()", x.row(), 1);
        due("of(0, 3, 0)", x.of(0, 3, 0), 5);
    }

    private static void spray() {
        RedGlass x = new RedGlass();
        due("spray()", x.spray(), 0);
        write(x, "\u003c\u003b\u0080\u00ff");
        x.row();
        due("spray()", x.spray(), 3);
        x.row();
        due("spray() behind a row() that was REFUSED", x.spray(), 3);
        x.image(0);
        write(x, "\u0001");
        x.row();
        due("spray()", x.spray(), 0);
        write(x, "zz");
        x.row();
        x.back(0);
        due("spray() behind back(0)", x.spray(), 2);
    }

    private static void law() {
        good("bars");
        good("  danger 1000  ");
        good("danger 0001000;will[rock]if not not(to<1 or far>2 and mood=3);bars if 1+2*[3-4]/5=night");
        good("danger5if1<2");
        good("bars;bars;bars;bars;bars;bars;bars;bars;bars;bars;bars;bars");
        good("will [[[[[[[[1]]]]]]]]");
        good("bars if ((((((([1]=1)))))))");
        good("danger 1" + "+1".repeat(49));
        good("bars if " + "not ".repeat(97) + "1=1");
        faulty("", 0);
        faulty("    ", 4);
        faulty("x", 0);
        faulty("  Danger 1", 2);
        faulty("banger 1", 0);
        faulty("bars if rock = z", 15);
        faulty("bars if rockz = 1", 8);
        good("bars if " + "1<2 or ".repeat(20) + "1=1");
        manyLaws();
        RedGlass x = new RedGlass();
        for (int i = 0; i < 6; i++) {
            write(x, "danger " + i);
            due("law()", x.law(), i);
        }
        write(x, "danger x");
        due("law() without room", x.law(), -5);
        due("count(7)", x.count(7), 0);
        due("fault()", x.fault(), -1);
        due("law() without room", x.law(), -5);
        due("count(2)", x.count(2), 6);
        due("count(11)", x.count(11), 2);
        due("force(5)", x.force(5), -1);
        due("of(0, 0, 0)", x.of(0, 0, 0), 5);
    }

    /** Limits are of one TEXT, and each LAW keeps to its own CLAUSES. */
    private static void manyLaws() {
        RedGlass x = new RedGlass();
        String full = "danger 1" + "+0".repeat(38) + ";bars if 1=2".repeat(5) + ";danger 7;bars;bars if 1=2";
        String last = "will 5 if 1=1;will 6 if 1=2;danger 8";
        write(x, full);
        due("law()", x.law(), -6);
        write(x, last);
        due("law()", x.law(), 0);
        write(x, "danger 3" + "+1".repeat(49));
        due("law()", x.law(), 1);
        write(x, "danger 2 + 1 if 1=1;bars if 1=2;bars if 1=2;bars if 1=2;bars if 1=2;bars if 1=2;bars if 1=2");
        due("law()", x.law(), 2);
        due("force(0)", x.force(0), -1);
        due("of(0, 0, 0)", x.of(0, 0, 0), 8);
        due("will(0, 1, 0)", x.will(0, 1, 0), 5);
        due("goes(0, 1, 0)", x.goes(0, 1, 0), 1);
        due("force(2)", x.force(2), 0);
        due("of(0, 0, 0)", x.of(0, 0, 0), 3);
        due("goes(0, 1, 0)", x.goes(0, 1, 0), 1);
        due("force(1)", x.force(1), 2);
        due("of(0, 0, 0)", x.of(0, 0, 0), 52);
    }

    private static void ownPlaces() {
        RedGlass x = new RedGlass();
        write(x, "bars;".repeat(80));
        due("law() of a full TAPE", x.law(), -6);
        due("fault()", x.fault(), 60);
        write(x, "bars" + " ".repeat(396));
        due("law() of a full TAPE", x.law(), 0);
        write(x, "+".repeat(400));
        due("law() of a full TAPE", x.law(), -6);
        due("fault()", x.fault(), 0);
        write(x, "will 1" + " ".repeat(393) + "+");
        due("law() of a full TAPE", x.law(), -6);
        due("fault()", x.fault(), 400);
    }

    private static void fault() {
        ownPlaces();
        faulty("danger", 6);
        faulty("danger  ", 8);
        faulty("danger 1 2", 9);
        faulty("danger 1001", 7);
        faulty("danger 99999999999999999999", 7);
        faulty("danger rocks", 7);
        faulty("danger +1", 7);
        faulty("danger 1 < 2", 9);
        faulty("danger (1)", 7);
        faulty("danger [1)", 9);
        faulty("danger []", 8);
        faulty("danger 1;", 9);
        faulty("danger 1;;", 9);
        faulty(";danger 1", 0);
        faulty("bars bars", 5);
        faulty("bars if", 7);
        faulty("bars if 1", 9);
        faulty("bars if 1 = ", 12);
        faulty("bars if 1 = 1 = 1", 14);
        faulty("bars if (1) = 1", 10);
        faulty("bars if (1 = 1", 14);
        faulty("bars if 1 = 1)", 13);
        faulty("bars if [1 = 1]", 11);
        faulty("bars if not", 11);
        faulty("bars if 1 = 1 and", 17);
        faulty("bars if 1 = 1 or or 1 = 1", 17);
        faulty("bars if 1 = 1 if 1 = 1", 14);
        faulty("bars if rock not = 1", 13);
        faulty("bars\tif 1=1", 4);
        faulty("danger -1", 7);
        faulty("danger 1,", 8);
        faulty("danger\u00e9", 6);
        faulty("bars;bars;bars;bars;bars;bars;bars;bars;bars;bars;bars;bars; bars", 61);
        faulty("bars;bars;bars;bars;bars;bars;bars;bars;bars;bars;bars;bars;", 60);
        faulty("will [[[[[[[[[1]]]]]]]]]", 13);
        faulty("bars if ((((((((([1]=1)))))))))", 16);
        faulty("bars if (((((((([1]=1))))))))", 16);
        faulty("danger 1" + "+1".repeat(50), 107);
        faulty("danger 1" + "+1".repeat(40) + ";will rock" + "*to".repeat(9), 123);
        RedGlass x = new RedGlass();
        due("fault()", x.fault(), -1);
        write(x, "bars x");
        x.law();
        due("fault()", x.fault(), 5);
        x.image(0);
        write(x, "bars");
        x.law();
        due("fault()", x.fault(), -1);
        write(x, "bar");
        x.law();
        x.back(0);
        due("fault() behind back(0)", x.fault(), 0);
    }

    private static void force() {
        RedGlass x = new RedGlass();
        due("force(-1)", x.force(-1), -1);
        due("status()", x.status(), 0);
        due("force(0)", x.force(0), -2);
        write(x, "danger 3");
        x.law();
        write(x, "danger 4");
        x.law();
        due("of(0, 0, 0)", x.of(0, 0, 0), 1);
        due("force(1)", x.force(1), -1);
        due("of(0, 0, 0)", x.of(0, 0, 0), 4);
        due("force(0)", x.force(0), 1);
        due("of(0, 0, 0)", x.of(0, 0, 0), 3);
        due("force(2)", x.force(2), -2);
        due("force(-2)", x.force(-2), -2);
        due("force(-1)", x.force(-1), 0);
        due("of(0, 0, 0)", x.of(0, 0, 0), 1);
        due("count(13)", x.count(13), -1);
    }

    private static void goes() {
        RedGlass x = new RedGlass();
        due("goes(0, 8, 58)", x.goes(0, 8, 58), 1);
        due("goes(0, 8, 59)", x.goes(0, 8, 59), -1);
        due("goes(0, 8, -1)", x.goes(0, 8, -1), -1);
        due("goes(3, 3, 0)", x.goes(3, 3, 0), -1);
        due("goes(9, 0, 0)", x.goes(9, 0, 0), -1);
        due("goes(0, -1, 0)", x.goes(0, -1, 0), -1);
        due("count(8)", x.count(8), 0);
        x = under("bars if to = 2 and night > 3; bars if rock = 4", 5);
        due("goes(0, 2, 3)", x.goes(0, 2, 3), 1);
        due("goes(0, 2, 4)", x.goes(0, 2, 4), 0);
        due("goes(4, 0, 0)", x.goes(4, 0, 0), 0);
        due("goes(0, 4, 0)", x.goes(0, 4, 0), 1);
        due("goes(0, 5, 0)", x.goes(0, 5, 0), -1);
        x = under("bars if far > 2", 7);
        due("goes(0, 3, 0)", x.goes(0, 3, 0), 0);
        due("goes(0, 4, 0)", x.goes(0, 4, 0), 0);
        due("goes(0, 5, 0)", x.goes(0, 5, 0), 1);
        due("goes(6, 0, 0)", x.goes(6, 0, 0), 1);
        x.terms(0, 6);
        due("goes(0, 4, 0)", x.goes(0, 4, 0), 1);
        x = under("bars if mood > 2");
        due("goes(0, 4, 0)", x.goes(0, 4, 0), 1);
        x.terms(1, 3);
        due("goes(0, 4, 0)", x.goes(0, 4, 0), 0);
        x = under("bars if 1 / 0 = 1 or 1 = 1; bars if not 1 / 0 = 1");
        due("goes(0, 1, 0) by what is BROKEN", x.goes(0, 1, 0), 1);
        x = under("bars if 1 = 1 or 1 / 0 = 1");
        due("goes(0, 1, 0) by what is so already", x.goes(0, 1, 0), 0);
        x = under("bars if not (1 = 2 and 1 / 0 = 1)");
        due("goes(0, 1, 0) by what can't be so any more", x.goes(0, 1, 0), 0);
    }

    private static void of() {
        RedGlass x = new RedGlass();
        due("of(8, 59, 0)", x.of(8, 59, 0), 1);
        due("of(9, 0, 0)", x.of(9, 0, 0), -1);
        due("of(-1, 0, 1)", x.of(-1, 0, 1), -1);
        due("of(0, 60, 0)", x.of(0, 60, 0), -1);
        due("of(0, -1, 0)", x.of(0, -1, 0), -1);
        due("of(0, 0, -1)", x.of(0, 0, -1), -1);
        due("of(0, 0, 2)", x.of(0, 0, 2), -1);
        x.wed(2, 3, 5);
        due("of(2, 2, 1)", x.of(2, 2, 1), 0);
        due("of(2, 3, 1)", x.of(2, 3, 1), 1);
        due("of(2, 5, 1)", x.of(2, 5, 1), 1);
        due("of(2, 6, 1)", x.of(2, 6, 1), 0);
        due("of(1, 4, 1)", x.of(1, 4, 1), 0);
        danger("danger rock + night * 10 + storm + mood", 2 + 70 + 1 + 4);
        danger("danger 50 + to * 10 + far", 50 - 10 - 1);
        danger("danger 100", 99);
        danger("danger 99", 99);
        danger("danger 0 - 1", 0);
        danger("danger 3; danger 4 if night = 8", 3);
        danger("danger 3; danger 4 if night = 7", 4);
        danger("danger 4; danger 3", 3);
        danger("danger 4; danger 3 / [rock - 2]", 4);
        danger("danger 4; danger 3 if 1 / 0 = 0", 4);
        danger("danger 3 / [rock - 2]", 1);
        danger("danger 9 - 3 - 2", 4);
        danger("danger 40 / 4 / 2", 5);
        danger("danger 7 / 2 * 2", 6);
        danger("danger 10 + [0 - 7] / 2", 7);
        danger("danger 2 + 3 * 4", 14);
        danger("danger [2 + 3] * 4", 20);
        danger("danger 5 if rock < 2; danger 6 if rock > 2", 1);
        danger("danger 5 if 1 = 2 and 1 = 1 or 1 = 1", 5);
        danger("danger 5 if 1 = 1 or 1 = 1 and 1 = 2", 5);
        danger("danger 5 if (1 = 1 or 1 = 1) and 1 = 2", 1);
        danger("danger 5 if not 1 = 1 or 1 = 1", 5);
        danger("danger 5 if not (1 = 1 or 1 = 1)", 1);
        danger("danger 5 if not not 1 = 1", 5);
        danger("danger 5 if not 1 = 1 and 1 = 1", 1);
        danger("danger 5 if not 1 = 2 and 1 = 1", 5);
        danger("danger 5 if not 1 = 2 or 1 = 2", 5);
        danger("danger 1000 * 1000 * 1000 - 1", 99);
        lastNight();
        danger("danger 1000 * 1000 * 1000 / 1000 / 1000 / 100", 10);
        danger("danger [1000 * 1000 * 1000 + 1] / 1000 / 1000 / 100", 1);
        danger("danger 1000 * 1000 * 1000 + 1 - 1000 * 1000 * 1000", 1);
        danger("danger 20 + [0 - 1000 * 1000 * 1000] / 1000 / 1000 / 100", 10);
        danger("danger [0 - 1000 * 1000 * 1000 - 1] / 1000", 1);
        danger("danger 1000*1000*1000*1000*1000*1000*1000*1000*1000*1000*1000*1000*0", 1);
        danger("danger 5 if 1000*1000*1000*2 > 1", 1);
        danger("will 7; bars", 1);
    }

    private static void lastNight() {
        RedGlass x = under("danger mood + 10 * storm");
        due("of(0, 59, 0)", x.of(0, 59, 0), 0);
        x.image(0);
        x.terms(1, 6);
        due("of(0, 59, 0)", x.of(0, 59, 0), 6);
        x.storm(59, 1);
        due("of(0, 59, 0)", x.of(0, 59, 0), 16);
        x.back(0);
        due("of(0, 59, 0)", x.of(0, 59, 0), 0);
        x.force(-1);
        due("of(0, 59, 0)", x.of(0, 59, 0), 1);
    }

    private static void will() {
        RedGlass x = new RedGlass();
        due("will(0, 1, 0)", x.will(0, 1, 0), 1);
        due("will(0, 0, 0)", x.will(0, 0, 0), -1);
        due("will(0, 1, 59)", x.will(0, 1, 59), -1);
        due("will(0, 1, -1)", x.will(0, 1, -1), -1);
        due("will(9, 1, 0)", x.will(9, 1, 0), -1);
        due("will(0, 9, 0)", x.will(0, 9, 0), -1);
        x = under("danger 50; will 7; will rock * 10 + to if far = 2; will 500 if night = 58; will 0 - 1 if night = 57; bars");
        due("will(3, 4, 0)", x.will(3, 4, 0), 7);
        due("will(3, 5, 0)", x.will(3, 5, 0), 35);
        due("will(8, 1, 0)", x.will(8, 1, 0), 81);
        due("will(8, 1, 58)", x.will(8, 1, 58), 99);
        due("will(8, 1, 57)", x.will(8, 1, 57), 0);
        x.storm(0, 1);
        due("will(3, 4, 0)", x.will(3, 4, 0), 7);
    }

    private static void oar() {
        RedGlass x = new RedGlass();
        due("oar(9)", x.oar(9), -2);
        due("oar(-1)", x.oar(-1), -2);
        for (int night = 1; night <= 59; night++) {
            due("oar", x.oar(night % 2 * 8), night);
        }
        due("oar(0) in NIGHT 59", x.oar(0), -3);
        due("oar(8) in NIGHT 59", x.oar(8), -3);
        due("oar(9) in NIGHT 59", x.oar(9), -2);
        due("count(6)", x.count(6), 8);
        x = under("bars if to = 2");
        due("oar(2)", x.oar(2), -3);
        due("oar(0)", x.oar(0), 1);
        due("oar(1)", x.oar(1), 2);
        x.wed(1, 2, 3);
        due("oar(0)", x.oar(0), -3);
        due("oar(1)", x.oar(1), 3);
        x.storm(4, 1);
        due("oar(1)", x.oar(1), 4);
        due("oar(0)", x.oar(0), -3);
        due("oar(1)", x.oar(1), 5);
        due("oar(0)", x.oar(0), 6);
        due("count(10)", x.count(10), 3);
    }

    private static void unrow() {
        RedGlass x = new RedGlass();
        due("unrow()", x.unrow(), -3);
        x.oar(4);
        x.oar(7);
        due("unrow()", x.unrow(), 4);
        due("trail(2)", x.trail(2), -1);
        due("oar(2)", x.oar(2), 2);
        due("unrow()", x.unrow(), 4);
        due("unrow()", x.unrow(), 0);
        due("unrow()", x.unrow(), -3);
        due("count(5)", x.count(5), 0);
    }

    private static void trail() {
        RedGlass x = new RedGlass();
        x.oar(4);
        x.oar(7);
        due("trail(0)", x.trail(0), 0);
        due("trail(1)", x.trail(1), 4);
        due("trail(2)", x.trail(2), 7);
        due("trail(3)", x.trail(3), -1);
        due("trail(-1)", x.trail(-1), -1);
        due("trail(60)", x.trail(60), -1);
    }

    private static void unwarned() {
        RedGlass x = under("danger rock * 10 + night", 3);
        due("unwarned()", x.unwarned(), 30);
        x.oar(2);
        due("unwarned()", x.unwarned(), 30 + 12);
        x.oar(1);
        due("unwarned()", x.unwarned(), 30 + 12 + 24);
        x.force(-1);
        due("unwarned()", x.unwarned(), 6);
        x.unrow();
        due("unwarned()", x.unwarned(), 4);
        x.terms(0, 1);
        due("unwarned()", x.unwarned(), 0);
    }

    private static void report() {
        RedGlass x = new RedGlass();
        due("report(9, 60, 0)", x.report(9, 60, 0), -1);
        due("report(0, -1, 0)", x.report(0, -1, 0), -1);
        due("report(9, 0, 2)", x.report(9, 0, 2), -1);
        due("report(0, 0, -1)", x.report(0, 0, -1), -1);
        due("report(9, 0, 1)", x.report(9, 0, 1), -2);
        due("report(-1, 0, 1)", x.report(-1, 0, 1), -2);
        for (int i = 1; i <= 16; i++) {
            due("report", x.report(i % 9, 59, i % 2), i);
        }
        due("report beyond", x.report(0, 0, 0), -5);
        due("report(9, 0, 1)", x.report(9, 0, 1), -2);
        due("report(0, 0, 2)", x.report(0, 0, 2), -1);
        due("count(4)", x.count(4), 16);
        due("count(11)", x.count(11), 1);
    }

    private static void burn() {
        RedGlass x = new RedGlass();
        due("burn(0)", x.burn(0), -2);
        x.report(1, 5, 1);
        x.report(2, 6, 1);
        x.report(3, 7, 1);
        due("burn(3)", x.burn(3), -2);
        due("burn(-1)", x.burn(-1), -2);
        due("burn(1)", x.burn(1), 2);
        due("could(5)", x.could(5), 2);
        due("could(6)", x.could(6), 511);
        due("could(7)", x.could(7), 8);
        due("burn(1)", x.burn(1), 1);
        due("could(7)", x.could(7), 511);
        due("burn(0)", x.burn(0), 0);
    }

    private static void could() {
        RedGlass x = new RedGlass();
        due("could(0)", x.could(0), 511);
        due("could(59)", x.could(59), 511);
        due("could(60)", x.could(60), -1);
        due("could(-1)", x.could(-1), -1);
        x = under("bars if not far = 1", 7);
        x.report(3, 10, 1);
        due("could(10)", x.could(10), 8);
        due("could(9)", x.could(9), 28);
        due("could(11)", x.could(11), 28);
        due("could(12)", x.could(12), 62);
        x.report(2, 11, 0);
        due("could(11)", x.could(11), 24);
        due("could(12)", x.could(12), 60);
        x.report(6, 12, 1);
        due("could(12) if some REPORT must be a LIE", x.could(12), 0);
        x.burn(2);
        x.oar(1);
        due("could(1) whatever was rowed", x.could(1), 127);
        x.storm(10, 1);
        due("could(11)", x.could(11), 8);
    }

    private static void lies() {
        RedGlass x = new RedGlass();
        due("lies()", x.lies(), 0);
        x.report(0, 10, 1);
        x.report(0, 10, 0);
        due("lies()", x.lies(), 1);
        x.report(1, 10, 1);
        x.report(2, 10, 1);
        due("lies()", x.lies(), 2);
        x.report(1, 10, 1);
        due("lies()", x.lies(), 2);
        stormAllBut(x);
        x.report(5, 59, 1);
        due("lies()", x.lies(), 3);
        x.storm(10, 0);
        due("lies()", x.lies(), 2);
        x.terms(0, 1);
        x.report(0, 0, 0);
        x.report(0, 59, 0);
        due("lies()", x.lies(), 2);
        for (int i = 3; i <= 16; i++) {
            x.report(0, i, 0);
            due("lies()", x.lies(), i);
        }
    }

    private static void ways() {
        RedGlass x = new RedGlass();
        due("ways()", x.ways(), 1_000_000_000_000L);
        x.terms(0, 1);
        due("ways()", x.ways(), 1);
        x.terms(0, 2);
        stormAllBut(x, 5);
        due("ways()", x.ways(), 4);
        x.storm(59, 0);
        due("ways()", x.ways(), 4);
        x.report(0, 5, 1);
        due("ways()", x.ways(), 2);
        x.report(1, 5, 1);
        due("ways()", x.ways(), 4);
        x.wed(0, 5, 5);
        due("ways()", x.ways(), 3);
        x.terms(0, 2);
        for (int night = 0; night < 38; night++) {
            x.storm(night, 0);
        }
        due("ways()", x.ways(), 1L << 39);
        x.storm(38, 0);
        due("ways()", x.ways(), 1_000_000_000_000L);
        x.storm(38, 1);
        x.report(0, 0, 0);
        due("ways()", x.ways(), 1L << 38);
        x = new RedGlass();
        stormAllBut(x, 1, 2, 3, 4, 5, 6, 7, 8, 9, 10, 11);
        due("ways()", x.ways(), 282429536481L);
    }

    private static void likely() {
        RedGlass x = new RedGlass();
        due("likely(60, 0)", x.likely(60, 0), -1);
        due("likely(-1, 0)", x.likely(-1, 0), -1);
        due("likely(0, 2)", x.likely(0, 2), -1);
        due("likely(0, -1)", x.likely(0, -1), -1);
        due("likely(59, 0)", x.likely(59, 0), 511);
        due("likely(59, 1)", x.likely(59, 1), 0);
        x.report(3, 10, 1);
        x.report(6, 10, 1);
        x.report(6, 11, 1);
        due("likely(10, 0)", x.likely(10, 0), 72);
        due("likely(10, 1)", x.likely(10, 1), 3);
        due("likely(11, 1)", x.likely(11, 1), 6);
        due("likely(12, 1)", x.likely(12, 1), 0);
        x.storm(10, 1);
        due("likely(10, 0)", x.likely(10, 0), 64);
        due("likely(10, 1)", x.likely(10, 1), 6);
        due("likely(9, 1)", x.likely(9, 1), 0);
        x = under("bars", 4);
        x.report(0, 30, 0);
        x.report(1, 31, 1);
        x.report(2, 32, 1);
        due("likely(0, 0)", x.likely(0, 0), 6);
        due("likely(0, 1)", x.likely(0, 1), 1);
        due("likely(59, 1)", x.likely(59, 1), 1);
    }

    private static void liars() {
        RedGlass x = new RedGlass();
        due("liars(2)", x.liars(2), -1);
        due("liars(-1)", x.liars(-1), -1);
        due("liars(0)", x.liars(0), 0);
        due("liars(1)", x.liars(1), 0);
        x.report(1, 10, 1);
        x.report(2, 10, 1);
        due("liars(0)", x.liars(0), 0);
        due("liars(1)", x.liars(1), 3);
        x.report(1, 10, 1);
        due("liars(0)", x.liars(0), 2);
        due("liars(1)", x.liars(1), 2);
        x.report(1, 10, 0);
        due("liars(0)", x.liars(0), 0);
        due("liars(1)", x.liars(1), 15);
        x.burn(1);
        due("liars(0) with the last moved up", x.liars(0), 4);
        due("liars(1)", x.liars(1), 4);
        x.terms(0, 2);
        x.report(0, 59, 0);
        x.report(1, 59, 0);
        due("liars(0)", x.liars(0), 0);
        due("liars(1)", x.liars(1), 3);
    }

    private static void round() {
        RedGlass x = under("bars if not far = 1", 5);
        due("round(0, 0, 31, -1)", x.round(0, 0, 31, -1), 4);
        int[] around = {0, 1, 2, 3, 4, -1};
        for (int i = 0; i < around.length; i++) {
            due("round(0, 0, 31, " + i + ")", x.round(0, 0, 31, i), around[i]);
        }
        due("round(0, 7, 18, -1)", x.round(0, 7, 18, -1), 10);
        int[] toAndFro = {0, 1, 0, 4, -1};
        for (int i = 0; i < toAndFro.length; i++) {
            due("round(0, 7, 18, " + i + ")", x.round(0, 7, 18, i), toAndFro[i]);
        }
        due("round(1, 3, 2, -1)", x.round(1, 3, 2, -1), 3);
        due("round(1, 3, 2, 0)", x.round(1, 3, 2, 0), 1);
        due("round(1, 3, 2, 1)", x.round(1, 3, 2, 1), -1);
        due("round(1, 3, 0, 0)", x.round(1, 3, 0, 0), 1);
        due("round(1, 3, 32, -1)", x.round(1, 3, 32, -1), -1);
        due("round(1, 3, -1, -1)", x.round(1, 3, -1, -1), -1);
        due("round(1, 3, 2, -2)", x.round(1, 3, 2, -2), -1);
        due("round(5, 3, 2, -1)", x.round(5, 3, 2, -1), -1);
        due("round(-1, 3, 2, -1)", x.round(-1, 3, 2, -1), -1);
        due("round(1, 60, 2, -1)", x.round(1, 60, 2, -1), -1);
        due("round(1, -1, 2, -1)", x.round(1, -1, 2, -1), -1);
        due("round(1, 59, 2, -1)", x.round(1, 59, 2, -1), 59);
        due("round(1, 59, 1, -1)", x.round(1, 59, 1, -1), -1);
        due("round(1, 59, 1, 0)", x.round(1, 59, 1, 0), -1);
        due("round(0, 55, 31, -1)", x.round(0, 55, 31, -1), 59);
        due("round(0, 56, 31, -1)", x.round(0, 56, 31, -1), -1);
        due("round(0, 56, 31, 0)", x.round(0, 56, 31, 0), -1);
        x = under("bars if to = 8 and night < 3");
        due("round(5, 0, 256, -1)", x.round(5, 0, 256, -1), 4);
        int[] idle = {5, 0, 0, 0, 8};
        for (int i = 0; i < idle.length; i++) {
            due("round(5, 0, 256, " + i + ")", x.round(5, 0, 256, i), idle[i]);
        }
        x = new RedGlass();
        x.wed(0, 0, 1);
        x.storm(2, 1);
        due("round(0, 0, 64, -1)", x.round(0, 0, 64, -1), 4);
        due("round(0, 0, 64, 3)", x.round(0, 0, 64, 3), 0);
        due("round(0, 0, 64, 4)", x.round(0, 0, 64, 4), 6);
        due("round(0, 0, 448, -1)", x.round(0, 0, 448, -1), 6);
        due("round(0, 0, 448, 6)", x.round(0, 0, 448, 6), 8);
        bigRounds();
        due("count(8)", x.count(8), 0);
    }

    private static void bigRounds() {
        RedGlass x = under("bars if not far = 1");
        due("round(4, 0, 511, -1)", x.round(4, 0, 511, -1), 8);
        int[] down = {4, 3, 2, 1, 0, 8, 7, 6, 5};
        for (int i = 0; i < down.length; i++) {
            due("round(4, 0, 511, " + i + ")", x.round(4, 0, 511, i), down[i]);
        }
        due("round(7, 50, 353, -1)", x.round(7, 50, 353, -1), 56);
        int[] turned = {7, 6, 5, 6, 7, 8, 0};
        for (int i = 0; i < turned.length; i++) {
            due("round(7, 50, 353, " + i + ")", x.round(7, 50, 353, i), turned[i]);
        }
        due("round(7, 50, 321, -1)", x.round(7, 50, 321, -1), 54);
        int[] shorter = {7, 6, 7, 8, 0};
        for (int i = 0; i < shorter.length; i++) {
            due("round(7, 50, 321, " + i + ")", x.round(7, 50, 321, i), shorter[i]);
        }
        due("round(7, 50, 320, -1)", x.round(7, 50, 320, -1), 53);
        due("round(7, 50, 352, 1)", x.round(7, 50, 352, 1), 8);
        due("round(7, 50, 352, -1)", x.round(7, 50, 352, -1), 54);
    }

    private static void reach() {
        RedGlass x = under("bars if not far = 1", 8);
        due("reach(0, 3, 4)", x.reach(0, 3, 4), 7);
        due("reach(0, 3, 7)", x.reach(0, 3, 7), 4);
        due("reach(0, 3, 0)", x.reach(0, 3, 0), 3);
        due("reach(0, 55, 4)", x.reach(0, 55, 4), 59);
        due("reach(0, 56, 4)", x.reach(0, 56, 4), -1);
        due("reach(4, 59, 4)", x.reach(4, 59, 4), 59);
        x.storm(4, 1);
        due("reach(0, 3, 4)", x.reach(0, 3, 4), 8);
        x.wed(2, 0, 59);
        due("reach(0, 3, 3)", x.reach(0, 3, 3), 9);
        due("reach(8, 0, 0)", x.reach(8, 0, 0), -1);
        due("reach(0, 0, 8)", x.reach(0, 0, 8), -1);
        due("reach(-1, 0, 0)", x.reach(-1, 0, 0), -1);
        due("reach(0, 60, 0)", x.reach(0, 60, 0), -1);
        due("reach(0, -1, 0)", x.reach(0, -1, 0), -1);
    }

    private static void guard() {
        RedGlass x = under("danger rock * night", 3);
        due("guard(0, 0, 2, -1)", x.guard(0, 0, 2, -1), 3);
        int[] way = {0, 2, 2, -1};
        for (int i = 0; i < way.length; i++) {
            due("guard(0, 0, 2, " + i + ")", x.guard(0, 0, 2, i), way[i]);
        }
        due("guard(1, 5, 5, -1)", x.guard(1, 5, 5, -1), 10);
        due("guard(1, 5, 5, 0)", x.guard(1, 5, 5, 0), 1);
        due("guard(1, 59, 59, -1)", x.guard(1, 59, 59, -1), 99);
        due("guard(1, 5, 4, -1)", x.guard(1, 5, 4, -1), -1);
        due("guard(1, 0, 60, -1)", x.guard(1, 0, 60, -1), -1);
        due("guard(1, -1, 4, -1)", x.guard(1, -1, 4, -1), -1);
        due("guard(3, 0, 4, -1)", x.guard(3, 0, 4, -1), -1);
        due("guard(-1, 0, 4, -1)", x.guard(-1, 0, 4, -1), -1);
        due("guard(1, 0, 4, -2)", x.guard(1, 0, 4, -2), -1);
        due("guard(1, 3, 4, 2)", x.guard(1, 3, 4, 2), -1);
        x.storm(0, 1);
        due("guard(0, 0, 2, -1)", x.guard(0, 0, 2, -1), 3 + 2);
        due("guard(0, 0, 2, 1)", x.guard(0, 0, 2, 1), 0);
        x = new RedGlass();
        int[] first = {2, 0, 0, 0};
        for (int i = 0; i < first.length; i++) {
            due("guard(2, 56, 59, " + i + ")", x.guard(2, 56, 59, i), first[i]);
        }
        due("guard(0, 0, 59, -1)", x.guard(0, 0, 59, -1), 480);
    }

    private static void sea() {
        RedGlass x = new RedGlass();
        due("sea(0, 99)", x.sea(0, 99), 0);
        due("sea(0, 0)", x.sea(0, 0), 99);
        due("sea(11, 5)", x.sea(11, 5), 0);
        due("sea(11, 6)", x.sea(11, 6), 5);
        due("sea(12, 5)", x.sea(12, 5), -1);
        due("sea(-1, 5)", x.sea(-1, 5), -1);
        due("sea(0, 100)", x.sea(0, 100), -1);
        due("sea(0, -1)", x.sea(0, -1), -1);
        due("search(0, 1)", x.search(0, 1), 6);
    }

    private static void search() {
        RedGlass x = new RedGlass();
        due("search(0, 0)", x.search(0, 0), -1);
        due("search(0, 1)", x.search(0, 1), -1);
        x.sea(3, 7);
        x.terms(2, 100);
        due("search(0, 0)", x.search(0, 0), 0);
        due("search(0, 2)", x.search(0, 2), -1);
        due("search(1, 0)", x.search(1, 0), 700);
        due("search(1, 2)", x.search(1, 2), 3);
        due("search(2, 0)", x.search(2, 0), 70000);
        due("search(2, 2)", x.search(2, 2), 0);
        due("search(-1, 0)", x.search(-1, 0), -1);
        due("search(7, 1)", x.search(7, 1), -1);
        due("search(1, 3)", x.search(1, 3), -1);
        due("search(1, -1)", x.search(1, -1), -1);
        x.sea(1, 10);
        x.terms(2, 30);
        due("search(1, 2)", x.search(1, 2), 1);
        due("search(2, 2) of two as likely, the lowest", x.search(2, 2), 1);
        due("search(2, 0)", x.search(2, 0), 300 * 100 + 700 * 30);
        due("search(3, 2)", x.search(3, 2), 3);
        due("search(3, 0)", x.search(3, 0), 5100000 + 7 * 30 * 10000);
        due("search(3, 1)", x.search(3, 1), 17000000);
        for (int cell = 0; cell < 12; cell++) {
            x.sea(cell, 99);
        }
        x.terms(2, 100);
        due("search(6, 0)", x.search(6, 0), 594_000_000_000_000L);
        due("search(6, 1)", x.search(6, 1), 1_188_000_000_000_000L);
        due("search(6, 2)", x.search(6, 2), 5);
        x.terms(2, 1);
        due("search(1, 0)", x.search(1, 0), 99);
    }

    private static void year() {
        RedGlass x = under("will 24", 2);
        due("year(-1, 2)", x.year(-1, 2), -1);
        due("year(1000001, 0)", x.year(1000001, 0), -1);
        due("year(0, 2)", x.year(0, 2), -2);
        due("year(0, -1)", x.year(0, -1), -2);
        due("drawn(0)", x.drawn(0), -1);
        due("year(0, 0)", x.year(0, 0), 2);
        due("year(1000000, 1)", x.year(1000000, 1), 2);
        due("count(5)", x.count(5), 0);
        stormAllBut(x);
        due("year(0, 1)", x.year(0, 1), 1);
        x = under("will 10", 3);
        due("year(0, 1)", x.year(0, 1), 3);
        x = under("will 99; bars if to > 1");
        due("year(0, 1)", x.year(0, 1), 2);
        due("year(0, 5)", x.year(0, 5), 3);
    }

    private static void drawn() {
        RedGlass x = under("will 24", 2);
        x.year(0, 0);
        int[] calm = {0, 1, 0, 0};
        for (int night = 0; night < calm.length; night++) {
            due("drawn(" + night + ")", x.drawn(night), calm[night]);
        }
        x.storm(0, 1);
        x.year(0, 0);
        int[] stormy = {0, 0, 1, 1};
        for (int night = 0; night < stormy.length; night++) {
            due("drawn(" + night + ") with a STORM", x.drawn(night), stormy[night]);
        }
        x.year(0, 2);
        due("drawn(2) behind one that was REFUSED", x.drawn(2), 1);
        due("drawn(60)", x.drawn(60), -1);
        due("drawn(-1)", x.drawn(-1), -1);
        x = under("will 10", 3);
        x.year(0, 1);
        int[] three = {1, 2, 1, 2};
        for (int night = 0; night < three.length; night++) {
            due("drawn(" + night + ") of three", x.drawn(night), three[night]);
        }
        x.image(0);
        x.force(-1);
        x.year(0, 0);
        x.back(0);
        due("drawn(0) behind back(0)", x.drawn(0), 0);
    }

    private static void image() {
        RedGlass x = new RedGlass();
        due("image(0)", x.image(0), 0);
        due("image(1)", x.image(1), 0);
        due("image(2)", x.image(2), -1);
        due("image(-1)", x.image(-1), -1);
        x.terms(1, 3);
        due("image(0)", x.image(0), 0);
        x.terms(1, 4);
        x.back(0);
        due("count(14) of the later IMAGE 0", x.count(14), 3);
        x.back(1);
        due("count(14) of IMAGE 1", x.count(14), 0);
    }

    private static void back() {
        RedGlass x = under("danger 5; bars if to = 1");
        due("back(2)", x.back(2), -1);
        due("back(-1)", x.back(-1), -1);
        due("back(1)", x.back(1), -2);
        x.terms(0, 4);
        x.terms(1, 2);
        x.terms(2, 70);
        x.storm(1, 1);
        x.wed(2, 3, 4);
        x.report(3, 5, 1);
        x.sea(4, 40);
        x.oar(3);
        due("image(1)", x.image(1), 0);
        x.terms(0, 9);
        x.terms(1, 0);
        x.terms(2, 1);
        x.storm(1, 0);
        x.storm(2, 1);
        x.sea(4, 0);
        x.oar(8);
        x.force(-1);
        write(x, "danger 6");
        due("law()", x.law(), 1);
        x.image(0);
        write(x, "tape");
        due("back(1)", x.back(1), 0);
        int[] want = {4, 1, 1, 1, 1, 1, 3, 4};
        for (int what = 0; what < want.length; what++) {
            due("count(" + what + ")", x.count(what), want[what]);
        }
        due("count(8)", x.count(8), 2);
        due("count(9)", x.count(9), 1);
        due("count(13)", x.count(13), 0);
        due("count(14)", x.count(14), 2);
        due("count(15)", x.count(15), 70);
        due("of(0, 0, 0)", x.of(0, 0, 0), 5);
        due("of(2, 4, 1)", x.of(2, 4, 1), 1);
        due("goes(0, 1, 0)", x.goes(0, 1, 0), 0);
        due("goes(0, 2, 1)", x.goes(0, 2, 1), 0);
        due("goes(0, 2, 2)", x.goes(0, 2, 2), 1);
        due("could(5)", x.could(5), 8);
        due("sea(4, 1)", x.sea(4, 1), 40);
        due("trail(1)", x.trail(1), 3);
        due("force(1)", x.force(1), -2);
        x.end(0);
        write(x, "danger 7");
        due("law()", x.law(), 1);
        due("back(0)", x.back(0), 0);
        due("force(1)", x.force(1), -1);
        due("of(0, 0, 0) by the LAW of that IMAGE", x.of(0, 0, 0), 6);
        due("back(1)", x.back(1), 0);
        due("count(2)", x.count(2), 1);
        due("of(0, 0, 0)", x.of(0, 0, 0), 5);
        due("oar(0)", x.oar(0), -3);
        x = new RedGlass();
        x.image(0);
        write(x, "danger 8");
        x.law();
        x.image(1);
        x.back(0);
        write(x, "danger 9");
        due("law()", x.law(), 0);
        x.back(1);
        x.force(0);
        due("of(0, 0, 0) by the first LAW", x.of(0, 0, 0), 8);
    }

    private static void count() {
        RedGlass x = new RedGlass();
        due("count(-1)", x.count(-1), -1);
        due("count(16)", x.count(16), -1);
        x.terms(9, 9);
        x.storm(-1, 0);
        x.force(3);
        x.jilt(0);
        x.burn(0);
        x.unrow();
        x.row();
        x.law();
        for (int i = 0; i < 5; i++) {
            x.wed(0, 0, 0);
        }
        x.goes(0, 0, 0);
        x.trail(5);
        x.end(-1);
        int[] want = {2, 3, 1, 1, 2};
        for (int i = 0; i < 5; i++) {
            due("count(" + (8 + i) + ")", x.count(8 + i), want[i]);
        }
        due("count(3)", x.count(3), 4);
        x.terms(0, 7);
        x.oar(6);
        due("count(5)", x.count(5), 1);
        due("count(6)", x.count(6), 6);
    }

    private static void status() {
        RedGlass x = new RedGlass();
        due("status()", x.status(), 0);
        x.terms(3, 0);
        due("terms", x.status(), -1);
        x.goes(0, 0, 0);
        x.feed(0, 0, 0, 0, 0);
        x.end(0);
        x.count(99);
        x.search(9, 9);
        due("calls that do not count", x.status(), -1);
        x.force(-1);
        due("force(-1), which answered -1", x.status(), 0);
        x.jilt(0);
        due("jilt", x.status(), -2);
        x.wed(0, 0, 0);
        due("wed", x.status(), 0);
        x.unrow();
        due("unrow", x.status(), -3);
        x.storm(0, 1);
        due("storm", x.status(), 0);
        x.oar(1);
        due("oar", x.status(), -3);
        x.image(0);
        due("image", x.status(), 0);
        x.row();
        due("row", x.status(), -6);
        x.back(0);
        due("back", x.status(), 0);
        x.law();
        due("law", x.status(), -6);
        x.report(0, 0, 0);
        due("report", x.status(), 0);
        x.burn(5);
        due("burn", x.status(), -2);
        x.sea(0, 0);
        due("sea", x.status(), 0);
        x.year(0, 9);
        due("year", x.status(), -2);
        x.year(0, 0);
        due("year", x.status(), 0);
        x.sea(12, 0);
        due("sea", x.status(), -1);
        for (int i = 0; i < 4; i++) {
            x.wed(0, 0, 0);
        }
        due("wed", x.status(), -5);
        clearedStatus();
    }

    /** Each call that stands wipes out what an earlier one was REFUSED by. */
    private static void clearedStatus() {
        for (int call = 0; call < 15; call++) {
            RedGlass x = new RedGlass();
            x.wed(0, 9, 9);
            x.report(0, 9, 1);
            x.oar(1);
            x.image(0);
            write(x, "bars");
            x.year(0, 99);
            due("status()", x.status(), -2);
            switch (call) {
                case 0: x.terms(0, 3); break;
                case 1: x.storm(4, 1); break;
                case 2: x.wed(0, 9, 9); break;
                case 3: x.jilt(0); break;
                case 4: x.row(); break;
                case 5: x.law(); break;
                case 6: x.force(-1); break;
                case 7: x.oar(1); break;
                case 8: x.unrow(); break;
                case 9: x.report(0, 9, 1); break;
                case 10: x.burn(0); break;
                case 11: x.sea(0, 1); break;
                case 12: x.year(0, 1); break;
                case 13: x.image(1); break;
                default: x.back(0); break;
            }
            due("status() behind call " + call, x.status(), 0);
            due("count(9) behind call " + call, x.count(9), 1);
            due("count(12) behind call " + call, x.count(12), 0);
        }
    }
}
