/** Promises 8 to 11 and the terms of section 2: the TAPE, the TEXTS and their FAULTS. */
final class TextTest {
    private TextTest() {
    }

    public static void main(String[] args) {
        tape();
        noSuchText();
        words();
        lawFaults();
        lawLines();
        lawWorth();
        depth();
        ropes();
        felt();
        days();
        changes();
        manyLines();
        Check.finish("TextTest");
    }

    private static void tape() {
        DeafBells x = new DeafBells();
        for (int i = 1; i <= 20; i++) {
            Check.due("feed", x.feed(0x20202020, 0x20202020, 0x20202020, 0x20202020, 0x20202020), i * 20);
        }
        Check.due("feed beyond", x.feed(0, 0, 0, 0, 0), -1);
        Check.due("end(401)", x.end(401), false);
        Check.due("end(-1)", x.end(-1), false);
        Check.due("end(MIN)", x.end(Integer.MIN_VALUE), false);
        Check.due("end(400)", x.end(400), true);
        Check.due("end(381)", x.end(381), true);
        Check.due("feed beyond", x.feed(0, 0, 0, 0, 0), -1);
        Check.due("end(382)", x.end(382), false);
        Check.due("end(380)", x.end(380), true);
        Check.due("feed", x.feed(0x20202020, 0x20202020, 0x20202020, 0x20202020, 0x2020200a), 400);
        Check.due("blanks alone", x.text(0), 0);
        Check.due("empty then", x.end(1), false);
        Check.due("feed", x.feed(0x70756c6c, 0x20313233, 0x3b20ff80, 0x81000000, 0), 20);
        Check.due("text(0)", x.text(0), -1);
        Check.due("fault(0)", x.fault(0), 1);
        Check.due("fault(1)", x.fault(1), 10);
        Check.due("empty then too", x.end(1), false);
        Check.refused(x, 0, " ".repeat(399) + "x", 1, 399);
        Check.refused(x, 0, " ".repeat(396) + "pull", 1, 400);
    }

    private static void noSuchText() {
        DeafBells x = new DeafBells();
        Check.tell(x, 0, "pull 1;", 1);
        Check.refused(x, 0, "pull", 1, 4);
        Check.due("text(4)", x.text(4), -1);
        Check.due("fault(0)", x.fault(0), 0);
        Check.due("fault(1)", x.fault(1), -1);
        Check.refused(x, 0, "pull", 1, 4);
        Check.due("fault(2)", x.fault(2), -1);
        Check.due("fault(-1)", x.fault(-1), -1);
        Check.due("text(-1)", x.text(-1), -1);
        Check.due("fault(0)", x.fault(0), 0);
        Check.due("lines", x.look(8), 1);
        Check.tell(x, 0, "", 0);
        Check.due("lines", x.look(8), 0);
    }

    private static void words() {
        DeafBells x = new DeafBells();
        x.ringer(0, 0, 0);
        x.ringer(0, 0, 0);
        Check.tell(x, 0, "pull\n12;hard3 when(feel<1);", 2);
        Check.tell(x, 0, "pull 007when not arm=0or hour>3and sway<5;", 1);
        Check.tell(x, 1, "ringer1feels 0;", 1);
        Check.tell(x, 0, "pull 0000;pull 9999;", 2);
        Check.refused(x, 0, "pull 00000;", 1, 5);
        Check.refused(x, 0, "pull 1 whe n;", 1, 7);
        Check.refused(x, 0, "pulls 1;", 1, 0);
        Check.refused(x, 0, "pullfeel;", 1, 0);
        Check.refused(x, 0, "Pull 1;", 1, 0);
        Check.refused(x, 0, "pul 1;", 1, 0);
        Check.refused(x, 0, " pullX 1;", 1, 1);
        Check.refused(x, 0, "pullA 1;", 1, 0);
        Check.refused(x, 0, "pullZ 1;", 1, 0);
        Check.refused(x, 0, "pull@1;", 1, 4);
        Check.refused(x, 0, "pull[1;", 1, 4);
        Check.refused(x, 0, "pull`1;", 1, 4);
        Check.refused(x, 0, "pull{1;", 1, 4);
        Check.refused(x, 0, "pull\u00e91;", 1, 4);
        Check.refused(x, 0, "pull\t1;", 1, 4);
        Check.refused(x, 0, "pull 1\r;", 1, 6);
        Check.refused(x, 0, "pull 1.;", 1, 6);
        Check.refused(x, 0, "pull 1; .", 1, 8);
        Check.refused(x, 0, "pull ringer;", 1, 5);
        Check.refused(x, 0, "pull 1 feels 2;", 1, 7);
        Check.refused(x, 1, "pull 1;", 1, 0);
        Check.refused(x, 1, "swap 1;", 1, 0);
        Check.refused(x, 2, "ringer 0 feels 1;", 1, 0);
        Check.refused(x, 3, "at 0 wedding 1;", 1, 0);
    }

    private static void lawFaults() {
        DeafBells x = new DeafBells();
        Check.refused(x, 0, "pull", 1, 4);
        Check.refused(x, 0, "pull  ", 1, 6);
        Check.refused(x, 0, "pull 1", 1, 6);
        Check.refused(x, 0, "pull 1 ", 1, 7);
        Check.refused(x, 0, ";", 1, 0);
        Check.refused(x, 0, "pull ;", 1, 5);
        Check.refused(x, 0, "pull 1 2;", 1, 7);
        Check.refused(x, 0, "pull (1);", 1, 5);
        Check.refused(x, 0, "pull -1;", 1, 5);
        Check.refused(x, 0, "pull 1 + ;", 1, 9);
        Check.refused(x, 0, "pull 1 * * 2;", 1, 9);
        Check.refused(x, 0, "pull 1 / feel;", 1, 9);
        Check.refused(x, 0, "pull 1 / 00;", 2, 9);
        Check.refused(x, 0, "pull 1 / 2 / 0 + ;", 2, 13);
        Check.refused(x, 0, "pull 1 / 2 + * 0;", 1, 13);
        Check.refused(x, 0, "pull 1 when;", 1, 11);
        Check.refused(x, 0, "pull 1 when 1;", 1, 13);
        Check.refused(x, 0, "pull 1 when 1 < ;", 1, 16);
        Check.refused(x, 0, "pull 1 when 1 < 2 < 3;", 1, 18);
        Check.refused(x, 0, "pull 1 when 1 < 2 and;", 1, 21);
        Check.refused(x, 0, "pull 1 when 1 < 2 or or 1 = 1;", 1, 21);
        Check.refused(x, 0, "pull 1 when (1 < 2;", 1, 18);
        Check.refused(x, 0, "pull 1 when 1 < 2);", 1, 17);
        Check.refused(x, 0, "pull 1 when (1) < 2;", 1, 14);
        Check.refused(x, 0, "pull 1 when (1 < 2) + 1;", 1, 20);
        Check.refused(x, 0, "pull 1 when 1 < (2);", 1, 16);
        Check.refused(x, 0, "pull 1 when 1 < not 2 = 2;", 1, 16);
        Check.refused(x, 0, "pull 1 when not;", 1, 15);
        Check.refused(x, 0, "pull 1 when 1 = 1 when 1 = 1;", 1, 18);
        Check.refused(x, 0, "pull when 1 = 1;", 1, 5);
        Check.refused(x, 0, "pull 1; feel", 1, 8);
        Check.refused(x, 0, "when 1 = 1;", 1, 0);
        Check.refused(x, 0, "pull 1 when 1 <= 2;", 1, 15);
        Check.refused(x, 0, "pull 1 when 1 / 0 = 1 $", 2, 16);
        Check.refused(x, 0, "pull 1 $ when 1 / 0 = 1;", 1, 7);
    }

    private static void lawLines() {
        DeafBells x = new DeafBells();
        x.ringer(3, 4, 5);
        Check.tell(x, 0, "pull 1 when feel = 3; hard 7; pull 2 when feel = 4; pull 3;", 4);
        Check.due("the first that is so", x.of(0, 7), 2);
        Check.due("hard", x.of(0, 8), 7);
        Check.due("lost as ever", x.lost(), 0);
        Check.refused(x, 0, "pull 9; hard", 1, 12);
        Check.due("it stays", x.of(0, 7), 2);
        Check.tell(x, 0, "pull 3; pull 4;", 2);
        Check.due("the first", x.of(0, 7), 3);
        Check.due("hard as ever", x.of(0, 8), 2);
        Check.tell(x, 0, "pull 3 when 1 = 2;", 1);
        Check.due("none is so", x.of(0, 7), 100);
    }

    private static void worth(DeafBells x, String e, int want) {
        Check.tell(x, 0, "pull " + e + ";", 1);
        Check.due("pull " + e, x.of(0, 7), want);
    }

    private static void truth(DeafBells x, String b, boolean want) {
        Check.tell(x, 0, "pull 1 when " + b + ";pull 0;", 2);
        Check.due("when " + b, x.of(0, 7), want ? 1 : 0);
    }

    private static void lawWorth() {
        DeafBells x = new DeafBells();
        x.ringer(3, 4, 5);
        x.set(5, 0, 6);
        x.set(6, 0, 7);
        x.set(0, 3, 8);
        x.set(3, 0, 90);
        x.set(1, 0, 10);
        x.set(2, 0, 2);
        worth(x, "feel", 4);
        worth(x, "arm", 5);
        worth(x, "hunger", 6);
        worth(x, "tired", 7);
        worth(x, "bell", 3);
        worth(x, "heavy", 8);
        worth(x, "sway", 90);
        worth(x, "folk", 10);
        worth(x, "draught", 2);
        worth(x, "hour", 0);
        worth(x, "felt", 0);
        worth(x, "10 - 3 - 2", 5);
        worth(x, "1 + 2 * 3", 7);
        worth(x, "2 * 3 + 1", 7);
        worth(x, "20 - 2 * 3 * 2 + 1", 9);
        worth(x, "7 / 2 * 2", 6);
        worth(x, "7 * 2 / 3", 4);
        worth(x, "100 / 3 / 3", 11);
        worth(x, "5 + 100 / 3 / 3 - 1", 15);
        worth(x, "5 + 1 * 2 / 2 * 3 - 4 / 2", 6);
        worth(x, "0 - 7 / 2 + 3", 0);
        worth(x, "9999 * 9999 * 100", 1000);
        worth(x, "9999 * 9999 * 22", 0);
        worth(x, "1 - 1001", 0);
        // wrapped: 9999 * 9999 * 43 is 4299140043 - 4294967296
        worth(x, "9999 * 9999 * 43 - 4172 * 1000", 747);
        // towards 0: one below 0 by 2 is 0
        Check.tell(x, 0, "pull 1 when 0 * 1 - 1 < 0 and feel - 5 = 0 - 1; hard 1;", 2);
        Check.due("pull", x.of(0, 7), 1);
        truth(x, "1 < 2", true);
        truth(x, "2 < 2", false);
        truth(x, "2 = 2", true);
        truth(x, "2 = 3", false);
        truth(x, "3 > 2", true);
        truth(x, "2 > 2", false);
        truth(x, "not 1 = 1", false);
        truth(x, "not not 1 = 1", true);
        truth(x, "not 1 = 2 and 1 = 2", false);
        truth(x, "not (1 = 2 and 1 = 2)", true);
        truth(x, "1 = 1 or 1 = 1 and 1 = 2", true);
        truth(x, "(1 = 1 or 1 = 1) and 1 = 2", false);
        truth(x, "1 = 2 and 1 = 1 or 1 = 1", true);
        truth(x, "1 = 2 and (1 = 1 or 1 = 1)", false);
        truth(x, "1 = 2 or 1 = 2 or 3 = 3", true);
        truth(x, "1 = 1 and 2 = 2 and 3 = 4", false);
        truth(x, "1 + 1 = 4 - 2 and 2 * 3 > 10 / 2", true);
        truth(x, "0 - 3 < 0 - 2", true);
        truth(x, "9999 * 9999 * 22 < 0", true);
        // towards 0, and on the left of one another: 4 - 7 / 2 is 4 - 3
        truth(x, "feel - tired / 2 = 1", true);
        x.set(3, 0, 9999);
        // 9999 * 9999 * 22 is 2199560022 - 4294967296, by 9999 -209561 and a rest
        truth(x, "sway * sway * 22 / 9999 + 2095 * 100 = 0 - 61", true);
        for (int i = 0; i < 25; i++) {
            x.hours(1);
        }
        worth(x, "hour", 1);
        truth(x, "hour = 1 and (folk < 10 or feel = 9)", true);
    }

    private static void depth() {
        DeafBells x = new DeafBells();
        x.ringer(0, 0, 0);
        truth(x, "((((((((1=1))))))))", true);
        truth(x, "not not not not not not not not 1=1", true);
        truth(x, "not not not not not not not 1=1", false);
        truth(x, "((((((((1=1)))))))) and ((((((((1=1))))))))", true);
        truth(x, "not not not not not not not not 1=1 or not not not not not not not not 1=2", true);
        truth(x, "not (not (not (1=2 or 1=2 and (1=2))))", true);
        truth(x, "not (1=2) and not (1=2) and not (1=2) and not (1=2) and not (1=2) and not (1=2)", true);
        truth(x, "1=2 or 1=1 and (1=2 or 1=1 and (1=2 or 1=1 and (1=2 or 1=1 and (1=2 or 1=1 and (1=2 or 1=1 and (1=2 or 1=1 and (1=2 or 1=1 and 9=3+2*3)))))))", true);
        Check.refused(x, 0, "pull 1 when (((((((((1=1)))))))));", 3, 20);
        Check.refused(x, 0, "pull 1 when not(not(not(not(not 1=1))));", 3, 28);
        Check.refused(x, 0, "pull 1 when not(not(not(not((1=1)))));", 3, 28);
        Check.refused(x, 0, "pull 1 when 1=1 and (((((((((1", 3, 28);
        Check.refused(x, 0, "pull 1 when (((((((( 1 = (", 1, 25);
    }

    private static void ropes() {
        DeafBells x = new DeafBells();
        Check.tell(x, 1, "", 0);
        Check.refused(x, 1, "ringer 0 feels 1;", 2, 7);
        for (int r = 0; r < 3; r++) {
            x.ringer(0, 0, 0);
        }
        Check.tell(x, 1, "ringer 0 feels 1; ringer 1 feels 0;", 2);
        Check.refused(x, 1, "ringer 3 feels 1;", 2, 7);
        Check.refused(x, 1, "ringer 0 feels 3;", 2, 15);
        Check.refused(x, 1, "ringer 2 feels 2;", 2, 15);
        Check.refused(x, 1, "ringer 2 feels 9999;", 2, 15);
        Check.refused(x, 1, "ringer feels 2;", 1, 7);
        Check.refused(x, 1, "ringer 0 1;", 1, 9);
        Check.refused(x, 1, "ringer 0 feels;", 1, 14);
        Check.refused(x, 1, "ringer 0 feels 1 2;", 1, 17);
        Check.refused(x, 1, "ringer 0 feels 1", 1, 16);
        Check.refused(x, 1, "ringer 0 feels 10000;", 1, 15);
        Check.refused(x, 1, "ringer 5 feels $;", 2, 7);
        Check.due("it stays", x.of(0, 6), 2);
        Check.due("it stays", x.of(1, 6), 1);
        Check.tell(x, 1, "ringer 2 feels 1;", 1);
        Check.due("the former are gone", x.of(0, 6), 0);
        Check.due("of(2, 6)", x.of(2, 6), 2);
        for (int r = 3; r < 10; r++) {
            x.ringer(0, 0, 0);
        }
        Check.tell(x, 1, "ringer 9 feels 0; ringer 0 feels 9;", 2);
        Check.due("of(9, 6)", x.of(9, 6), 1);
        Check.due("of(0, 6)", x.of(0, 6), 512);
    }

    private static void felt() {
        DeafBells x = new DeafBells();
        for (int r = 0; r < 4; r++) {
            x.ringer(r, r, 0);
        }
        Check.tell(x, 0, "pull 1000 when feel < 2; pull 500 * felt; hard 1 + felt;", 3);
        Check.tell(x, 1, "ringer 0 feels 3; ringer 2 feels 0; ringer 2 feels 1; ringer 2 feels 0; ringer 3 feels 2; ringer 3 feels 0; ringer 3 feels 1;", 7);
        x.pull(3);
        Check.due("by hand none is felt", x.bell(3, 1), 1);
        Check.due("hours(1)", x.hours(1), 4);
        Check.due("0 feels 3, who pulled by hand", x.bell(0, 1), 1);
        Check.due("1 feels none", x.bell(1, 1), 1);
        Check.due("2 feels two", x.bell(2, 1), 3);
        Check.due("3 feels three", x.bell(3, 1), 5);
        x.act(2, 0);
        x.set(6, 0, 50);
        x.act(2, 1);
        x.set(6, 1, 50);
        Check.due("nor those of the hour before", x.hours(1), 0);
    }

    private static void days() {
        DeafBells x = new DeafBells();
        Check.tell(x, 2, "at 0 wedding 99; at 23 fire 0; at 5 market 1; at 5 death 2; at 5 christening 3; at 5 draught 9;", 6);
        Check.refused(x, 2, "at 24 fire 0;", 2, 3);
        Check.refused(x, 2, "at 0 fire 100;", 2, 10);
        Check.refused(x, 2, "at 0 draught 10;", 2, 13);
        Check.refused(x, 2, "at 0 christening 100;", 2, 17);
        Check.refused(x, 2, "at fire 1;", 1, 3);
        Check.refused(x, 2, "at 0 1;", 1, 5);
        Check.refused(x, 2, "at 0 folk 1;", 1, 5);
        Check.refused(x, 2, "at 0 swap 1;", 1, 5);
        Check.refused(x, 2, "at 0 fire;", 1, 9);
        Check.refused(x, 2, "at 0 fire 1 2;", 1, 12);
        Check.refused(x, 2, "at 0 fire 1", 1, 11);
        Check.refused(x, 2, "fire 1;", 1, 0);
        Check.due("wedding", x.hours(1), 0);
        Check.due("FOLK", x.look(2), 90);
        Check.due("no hour of these", x.hours(4), 0);
        x.set(1, 0, 50);
        x.hours(1);
        Check.due("line by line", x.look(2), 3);
        Check.due("DRAUGHT", x.look(3), 9);
        Check.tell(x, 2, "at 6 market 30; at 6 wedding 80; at 6 death 60; at 6 fire 20; at 6 market 5; at 7 fire 50; at 7 wedding 8; at 8 draught 0;", 8);
        x.hours(1);
        Check.due("held at each line", x.look(2), 22);
        x.hours(1);
        Check.due("held at each line", x.look(2), 8);
        x.hours(1);
        Check.due("DRAUGHT", x.look(3), 0);
        x.hours(21);
        Check.due("no hour of these", x.look(2), 8);
        x.hours(1);
        Check.due("the next day", x.look(2), 22);
    }

    private static void changes() {
        DeafBells x = new DeafBells();
        Check.tell(x, 3, "swap 0; swap 6; swap 0 2 4 6; swap 6 4 2 0; swap 1 3 5; swap 0 3 5;", 6);
        Check.refused(x, 3, "swap 7;", 2, 5);
        Check.refused(x, 3, "swap 0 0;", 2, 7);
        Check.refused(x, 3, "swap 0 1;", 2, 7);
        Check.refused(x, 3, "swap 3 2;", 2, 7);
        Check.refused(x, 3, "swap 0 4 2 3;", 2, 11);
        Check.refused(x, 3, "swap 0 2 4 6 6;", 2, 13);
        Check.refused(x, 3, "swap 0 2 4 6 1;", 2, 13);
        Check.refused(x, 3, "swap 0 9999;", 2, 7);
        Check.refused(x, 3, "swap 32;", 2, 5);
        Check.refused(x, 3, "swap 0 33;", 2, 7);
        Check.refused(x, 3, "swap;", 1, 4);
        Check.refused(x, 3, "swap 0", 1, 6);
        Check.refused(x, 3, "swap 0 swap;", 1, 7);
        Check.refused(x, 3, "0;", 1, 0);
    }

    private static void manyLines() {
        DeafBells x = new DeafBells();
        x.ringer(0, 0, 0);
        x.ringer(0, 0, 0);
        String[] lines = {"lost 1;", "ringer 0 feels 1;", "at 1 fire 2;", "swap 1;"};
        for (int k = 0; k < 4; k++) {
            String all = lines[k].repeat(16);
            Check.tell(x, k, all, 16);
            Check.refused(x, k, all + lines[k], 3, all.length());
            Check.refused(x, k, all + " \n" + lines[k].substring(0, 2) + "x", 1, all.length() + 2);
            Check.refused(x, k, all + "; ", 1, all.length());
            Check.refused(x, k, all + lines[k].substring(0, lines[k].indexOf(' ')), 3, all.length());
            Check.refused(x, k, "$" + all + lines[k], 1, 0);
        }
        Check.tell(x, 0, "hard 1;".repeat(15) + "pull 7;", 16);
        Check.due("of the sixteenth line", x.of(0, 7), 7);
        Check.tell(x, 0, "lost 1" + "+1".repeat(196) + ";", 1);
        Check.due("of a whole TAPE", x.lost(), 197);
        Check.tell(x, 0, "lost 7 when 1=1" + " or 1=1".repeat(54) + ";", 1);
        Check.due("of a whole TAPE", x.lost(), 7);
    }
}
