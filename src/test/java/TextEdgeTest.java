import java.util.regex.Matcher;
import java.util.regex.Pattern;

/** Sentences of the document that name an edge: section 2 of the terms, promises 8 to 11. */
final class TextEdgeTest {
    private static final String LAW = "pull 1+2*feel/3-arm when not(1<2 or 3=sway and folk>4);hard felt;lost 9999 when 0<hour;";
    private static final String ROPES = "ringer 0 feels 1; ringer 9 feels 0;";
    private static final String DAYS = "at 0 wedding 99; at 23 draught 9; at 5 fire 0;at 6 market 7; at 8 death 10; at 9 christening 11;";
    private static final String CHANGES = "swap 0 2 4 6; swap 1; swap 5 3;";
    private static final String[] TEXTS = {LAW, ROPES, DAYS, CHANGES};

    private TextEdgeTest() {
    }

    public static void main(String[] args) {
        feedFull();
        feedHighestFirst();
        endCuts();
        emptyThen();
        emptyTexts();
        noSuchText();
        staysAsItWas();
        faultOfTheLatest();
        spoiledTokens();
        cutOff();
        lettersTogether();
        digitsTogether();
        signsAndBlanks();
        lawLines();
        lawTruths();
        lawNumbers();
        otherLines();
        partByNought();
        ringersThatAreNot();
        daysBounds();
        placesBounds();
        seventeenth();
        ninthOpen();
        firstByPlace();
        leastAtOnePlace();
        firstLineThatIsSo();
        heldWorth();
        wraps();
        towardsNought();
        longLawsAgain();
        lostRestNought();
        feltOfTheHour();
        Check.finish("TextEdgeTest");
    }

    private static DeafBells ten() {
        DeafBells x = new DeafBells();
        for (int r = 0; r < 10; r++) {
            x.ringer(r % 8, r, r);
        }
        return x;
    }

    private static void feedFull() {
        Check.sentence("NONE, and nothing comes, if there would be more than 400.");
        int blank = 0x20202020;
        for (int cut = 379; cut <= 381; cut++) {
            DeafBells x = new DeafBells();
            for (int i = 1; i <= 20; i++) {
                Check.due("feed", x.feed(blank, blank, blank, blank, blank), 20 * i);
            }
            Check.due("a feed more", x.feed(0, 0, 0, 0, 0), -1);
            Check.due("it has 400", x.end(401), false);
            Check.due("it has 400", x.end(400), true);
            x.end(cut);
            int many = cut + 20 > 400 ? -1 : cut + 20;
            Check.due("feed behind " + cut, x.feed(blank, blank, blank, blank, blank), many);
            Check.due("nothing more came", x.end(Math.max(cut, many) + 1), false);
            Check.due("it is there", x.end(Math.max(cut, many)), true);
            Check.due("blanks all", x.text(0), 0);
        }
    }

    private static void feedHighestFirst() {
        Check.sentence("Twenty bytes come behind the TAPE, of each number the highest first: how many it has.");
        DeafBells x = ten();
        Check.due("hard 1234;pull 56;", x.feed(0x68617264, 0x20313233, 0x343b7075, 0x6c6c2035, 0x363b2020), 20);
        Check.due("text(0)", x.text(0), 2);
        Check.due("pull", x.of(0, 7), 56);
        x.feed(0x70756c6c, 0x20202020, 0x20202020, 0x20202020, 0x20202020);
        x.feed(0x20202020, 0x20202020, 0x20202020, 0x20202020, 0x2020373b);
        Check.due("two feeds are one text", x.text(0), 1);
        Check.due("pull", x.of(0, 7), 7);
        for (int at = 0; at < 20; at++) {
            int[] v = new int[5];
            java.util.Arrays.fill(v, 0x20202020);
            v[at / 4] ^= (0x20 ^ 0xff) << 24 - at % 4 * 8;
            Check.due("feed", x.feed(v[0], v[1], v[2], v[3], v[4]), 20);
            Check.due("byte 255", x.text(0), -1);
            Check.due("its place", x.fault(1), at);
        }
    }

    private static void endCuts() {
        Check.sentence("The TAPE has its first n bytes alone: true; false, changing nothing, if it has not so many, or n is below 0.");
        DeafBells x = ten();
        Check.put(x, "pull 1;hard 2;");
        Check.due("end(15)", x.end(15), false);
        Check.due("end(-1)", x.end(-1), false);
        Check.due("end(14)", x.end(14), true);
        Check.due("end(7)", x.end(7), true);
        Check.due("end(8)", x.end(8), false);
        Check.due("the first alone", x.text(0), 1);
        Check.put(x, "pull 1;");
        Check.due("end(0)", x.end(0), true);
        Check.due("none is left", x.text(0), 0);
    }

    private static void emptyThen() {
        Check.sentence("The TAPE, empty then, is TEXT k: how many lines.");
        DeafBells x = ten();
        for (int k = 0; k < 4; k++) {
            Check.tell(x, k, TEXTS[k], TEXTS[k].length() - TEXTS[k].replace(";", "").length());
            Check.due("empty behind text " + k, x.end(1), false);
            Check.due("lines", x.text(k), 0);
            Check.refused(x, k, "$", 1, 0);
            Check.due("empty behind a FAULT of text " + k, x.end(1), false);
        }
    }

    private static void emptyTexts() {
        Check.sentence("TEXTS (empty at first).");
        DeafBells x = new DeafBells();
        for (int k = 0; k < 4; k++) {
            Check.tell(x, k, "", 0);
            Check.tell(x, k, " \n ", 0);
            Check.due("look", x.look(8 + k), 0);
        }
        DeafBells y = ten();
        for (int k = 0; k < 4; k++) {
            Check.tell(y, k, TEXTS[k], k == 0 || k == 3 ? 3 : k == 1 ? 2 : 6);
        }
        for (int k = 0; k < 4; k++) {
            Check.tell(y, k, "", 0);
            Check.due("look", y.look(8 + k), 0);
        }
        Check.due("as ever", y.of(3, 7), 100);
        Check.due("as ever", y.of(3, 8), 2);
        Check.due("none is felt", y.of(0, 6), 0);
        Check.due("without CHANGES", y.peal(8, 0), -1);
        y.hours(1);
        Check.due("no wedding", y.look(2), 0);
    }

    private static void noSuchText() {
        Check.sentence("NONE: no such one (fault() tells 0), or a FAULT (it stays as it was).");
        for (int k : new int[] {-1, 4, Integer.MIN_VALUE, Integer.MAX_VALUE}) {
            DeafBells x = ten();
            Check.refused(x, 0, "pull", 1, 4);
            Check.put(x, "pull 1;");
            Check.due("text(" + k + ")", x.text(k), -1);
            Check.due("fault(0)", x.fault(0), 0);
            Check.due("fault(1)", x.fault(1), -1);
            for (int text = 0; text < 4; text++) {
                Check.due("look", x.look(8 + text), 0);
            }
            Check.due("pull", x.of(0, 7), 100);
        }
    }

    private static void staysAsItWas() {
        Check.sentence("or a FAULT (it stays as it was)");
        DeafBells x = ten();
        Check.tell(x, 0, "pull 5; hard 6; lost 7;", 3);
        Check.tell(x, 1, ROPES, 2);
        Check.tell(x, 2, "at 0 draught 5;", 1);
        Check.tell(x, 3, "swap 0; swap 1;", 2);
        Check.refused(x, 0, "pull 1; hard 2; lost 3; pull", 1, 28);
        Check.refused(x, 1, "ringer 1 feels 2; ringer 0 feels 0;", 2, 33);
        Check.refused(x, 2, "at 0 draught 1; at 0 wedding 100;", 2, 29);
        Check.refused(x, 3, "swap 6; swap 6; swap 6; swap 7;", 2, 29);
        Check.due("pull", x.of(0, 7), 5);
        Check.due("hard", x.of(0, 8), 6);
        Check.due("lost", x.lost(), 7);
        Check.due("whom he feels", x.of(0, 6), 2);
        Check.due("whom he feels", x.of(1, 6), 0);
        Check.due("LONG", x.peal(3, 0), 6);
        x.hours(1);
        Check.due("DRAUGHT", x.look(3), 5);
    }

    private static void faultOfTheLatest() {
        Check.sentence("Of the latest text() what 0 the FAULT (0 without one), 1 its place (NONE).");
        DeafBells x = ten();
        Check.due("before any", x.fault(0), 0);
        Check.due("before any", x.fault(1), -1);
        Check.refused(x, 3, " swap 7;", 2, 6);
        Check.put(x, "swap");
        Check.due("feed and end are none", x.fault(0), 2);
        x.state(3);
        x.hours(2);
        x.undo();
        Check.due("nor are others", x.fault(1), 6);
        Check.due("text(3)", x.text(3), -1);
        Check.due("fault(0)", x.fault(0), 1);
        Check.due("fault(1)", x.fault(1), 4);
        Check.tell(x, 3, "swap 6;", 1);
        for (int what : new int[] {-1, 2, Integer.MIN_VALUE, Integer.MAX_VALUE}) {
            Check.due("fault(" + what + ")", x.fault(what), -1);
        }
    }

    private static Matcher tokens(String text) {
        return Pattern.compile("[a-z]+|[0-9]+|[^ ]").matcher(text);
    }

    private static void spoiledTokens() {
        Check.sentence("1 what can't stand there (the end: the text's length)");
        String[] bad = {"$", "wrong", "12345", "\t", "\u00ff"};
        for (int k = 0; k < 4; k++) {
            Matcher m = tokens(TEXTS[k]);
            while (m.find()) {
                DeafBells x = ten();
                for (String b : bad) {
                    String text = TEXTS[k].substring(0, m.start()) + " " + b + " " + TEXTS[k].substring(m.end());
                    Check.refused(x, k, text, 1, m.start() + 1);
                }
            }
        }
    }

    private static void cutOff() {
        Check.sentence("(the end: the text's length)");
        for (int k = 0; k < 4; k++) {
            Matcher m = tokens(TEXTS[k]);
            boolean begins = true;
            while (m.find()) {
                DeafBells x = ten();
                String head = TEXTS[k].substring(0, m.start());
                if (begins) {
                    Check.tell(x, k, head, head.length() - head.replace(";", "").length());
                } else {
                    Check.refused(x, k, head, 1, head.length());
                    Check.refused(x, k, head + " \n ", 1, head.length() + 3);
                }
                begins = m.group().equals(";");
            }
        }
        Check.refused(ten(), 0, " ".repeat(396) + "pull", 1, 400);
    }

    private static void lettersTogether() {
        Check.sentence("letters as many as stand together are KEYWORDS (those told here for that text) or none");
        DeafBells x = ten();
        for (int sign = 'A'; sign <= 'z'; sign++) {
            boolean letter = Character.isLetter(sign);
            Check.refused(x, 0, "pull" + (char) sign + "1;", 1, letter ? 0 : 4);
        }
        Check.tell(x, 0, "pull1when1=1and2=2or3=3;", 1);
        Check.refused(x, 0, "pull 1 whennot 1=1;", 1, 7);
        Check.refused(x, 0, "pullpull 1;", 1, 0);
        Check.refused(x, 0, "pull fee l;", 1, 5);
        Check.refused(x, 0, "pull feels;", 1, 5);
        Check.refused(x, 0, "pull fel;", 1, 5);
        Check.refused(x, 0, "pul 1;", 1, 0);
        Check.refused(x, 1, "ringer 0 feel 1;", 1, 9);
        Check.refused(x, 1, "ringers 0 feels 1;", 1, 0);
        String[] words = {"pull", "hard", "lost", "when", "or", "and", "not", "feel", "arm", "hunger", "tired", "bell", "heavy", "sway",
            "folk", "draught", "hour", "felt", "ringer", "feels", "at", "wedding", "fire", "market", "death", "christening", "swap"};
        for (int w = 0; w < words.length; w++) {
            boolean unit = w >= 7 && w <= 17;
            if (unit) {
                Check.tell(x, 0, "pull " + words[w] + ";", 1);
            } else {
                Check.refused(x, 0, "pull " + words[w] + ";", 1, 5);
            }
            boolean day = words[w].equals("draught") || w >= 21 && w <= 25;
            if (day) {
                Check.tell(x, 2, "at 0 " + words[w] + " 1;", 1);
            } else {
                Check.refused(x, 2, "at 0 " + words[w] + " 1;", 1, 5);
            }
            for (int k = 0; k < 4; k++) {
                boolean begins = k == 0 ? w < 3 : words[w].equals(new String[] {"", "ringer", "at", "swap"}[k]);
                Check.refused(x, k, words[w], 1, begins ? words[w].length() : 0);
            }
        }
    }

    private static void digitsTogether() {
        Check.sentence("digits as many as stand together NUMBERS of 1 to 4 digits or none");
        DeafBells x = ten();
        Check.tell(x, 0, "lost 0;lost 9999;lost 0000;", 3);
        Check.tell(x, 0, "lost 0009;", 1);
        Check.due("lost", x.lost(), 9);
        Check.refused(x, 0, "lost 00001;", 1, 5);
        Check.refused(x, 0, "lost 10000;", 1, 5);
        Check.refused(x, 0, "lost 1 2;", 1, 7);
        Check.refused(x, 0, "lost 7/00001;", 1, 7);
        Check.tell(x, 1, "ringer 0009 feels 0000;", 1);
        Check.tell(x, 2, "at 0023 fire 0099;", 1);
        Check.tell(x, 3, "swap 0006 0000;", 1);
        Check.refused(x, 1, "ringer 00009 feels 0;", 1, 7);
        Check.refused(x, 2, "at 00000 fire 0;", 1, 3);
        Check.refused(x, 3, "swap 0 00002;", 1, 7);
    }

    private static void signsAndBlanks() {
        Check.sentence("Blanks (32, 10) between.");
        for (int sign = 0; sign < 256; sign++) {
            DeafBells x = ten();
            boolean digit = sign >= '0' && sign <= '9';
            if (sign == 32 || sign == 10) {
                Check.tell(x, 0, "lost" + (char) sign + "1" + (char) sign + ";" + (char) sign, 1);
            } else if (!digit) {
                Check.refused(x, 0, "lost 1; " + (char) sign, 1, 8);
            }
            boolean goesOn = sign == ';' || digit || sign == 32 || sign == 10;
            if (!goesOn) {
                boolean wants = "+-*/".indexOf((char) sign) >= 0;
                Check.refused(x, 0, "lost 1" + (char) sign + ";", 1, wants ? 7 : 6);
            }
        }
    }

    private static void lawLines() {
        Check.sentence("0 THE LAW = {(pull | hard | lost) E [when B] ;}.");
        DeafBells x = ten();
        for (String word : new String[] {"pull", "hard", "lost"}) {
            Check.tell(x, 0, word + " 1;", 1);
            Check.tell(x, 0, word + " 1 when 1 = 1;", 1);
            Check.refused(x, 0, word + ";", 1, 4);
            Check.refused(x, 0, word + " 1 when;", 1, 11);
            Check.refused(x, 0, word + " 1 when 1 = 1 when 1 = 1;", 1, 18);
            Check.refused(x, 0, word + " 1;;", 1, 7);
            Check.refused(x, 0, word + " when 1 = 1;", 1, 5);
            Check.refused(x, 0, word + " 1 " + word + " 1;", 1, 7);
        }
    }

    private static void lawTruths() {
        Check.sentence("B = A {or A}. A = C {and C}. C = E (< | = | >) E | not C | ( B ).");
        DeafBells x = ten();
        String[] many = {"1=1", "1=1 or 1=1", "1=1 and 1=1", "not 1=1", "(1=1)", "not(1=1 or 1=1)and not not(1=1)", "1=1 or 1=1 and 1=1 or 1=1"};
        for (String b : many) {
            Check.tell(x, 0, "lost 1 when " + b + ";", 1);
        }
        so(x, "1=1 or 1=1 and 1=2", true);
        so(x, "1=2 and 1=1 or 1=1", true);
        so(x, "1=2 and (1=1 or 1=1)", false);
        so(x, "not 1=2 or 1=1", true);
        so(x, "not 1=1 or 1=1", true);
        so(x, "not 1=2 and 1=2", false);
        so(x, "1<1 or 1>1", false);
        so(x, "1<2 and 2>1 and 2=2", true);
        so(x, "not 1<2 or not 2>1 or not 2=2", false);
        so(x, "not 2<2 and not 2>2 and not 2=1", true);
        so(x, "1=2 or (1=1 and not(1=2 or 1=2) and 1=1)", true);
        Check.refused(x, 0, "lost 1 when 1;", 1, 13);
        Check.refused(x, 0, "lost 1 when (1);", 1, 14);
        Check.refused(x, 0, "lost 1 when ();", 1, 13);
        Check.refused(x, 0, "lost 1 when 1=1 or;", 1, 18);
        Check.refused(x, 0, "lost 1 when and 1=1;", 1, 12);
        Check.refused(x, 0, "lost 1 when 1=1=1;", 1, 15);
        Check.refused(x, 0, "lost 1 when 1==1;", 1, 14);
        Check.refused(x, 0, "lost 1 when (1=1) = 1;", 1, 18);
        Check.refused(x, 0, "lost 1 when 1=1 not 1=1;", 1, 16);
        Check.refused(x, 0, "lost 1 when (1=1;", 1, 16);
        Check.refused(x, 0, "lost 1 when 1=1);", 1, 15);
        Check.refused(x, 0, "lost 1 when not;", 1, 15);
    }

    private static void lawNumbers() {
        Check.sentence("E = T {(+ | -) T}. T = U {* U | / NUMBER}. U = NUMBER | feel | arm | hunger | tired | bell | heavy | sway | folk | draught | hour | felt.");
        DeafBells x = ten();
        String[] sums = {"9-4-3", "9-4+3", "2+3*4", "2*3+4", "20/3*3", "20*3/7", "100/7/3", "50-20/3*2-1", "1*2*3*4/5"};
        int[] worth = {2, 8, 14, 10, 18, 8, 4, 37, 4};
        for (int i = 0; i < sums.length; i++) {
            Check.tell(x, 0, "lost " + sums[i] + ";", 1);
            Check.due(sums[i], x.lost(), worth[i]);
        }
        Check.refused(x, 0, "lost 1 / feel;", 1, 9);
        Check.refused(x, 0, "lost (1);", 1, 5);
        Check.refused(x, 0, "lost -1;", 1, 5);
        Check.refused(x, 0, "lost 1+;", 1, 7);
        Check.refused(x, 0, "lost 1+-1;", 1, 7);
        Check.refused(x, 0, "lost 1*;", 1, 7);
        Check.refused(x, 0, "lost 1/;", 1, 7);
        Check.refused(x, 0, "lost 1/2/;", 1, 9);
        Check.refused(x, 0, "lost *1;", 1, 5);
        Check.refused(x, 0, "lost feel arm;", 1, 10);
        Check.refused(x, 0, "lost 1=1;", 1, 6);
        Check.refused(x, 0, "lost not 1;", 1, 5);
        Check.sentence("feel, arm, hunger, tired; bell, heavy: of his BELL; sway; folk; draught");
        DeafBells y = new DeafBells();
        y.ringer(0, 0, 0);
        y.ringer(6, 1, 2);
        int[][] set = {{5, 1, 3}, {6, 1, 4}, {0, 6, 5}, {0, 0, 77}, {0, 1, 78}, {3, 0, 700}, {1, 0, 8}, {2, 0, 9}, {5, 0, 50}, {6, 0, 51}};
        for (int[] s : set) {
            y.set(s[0], s[1], s[2]);
        }
        String[] words = {"feel", "arm", "hunger", "tired", "bell", "heavy", "sway", "folk", "draught", "hour", "felt"};
        int[] want = {1, 2, 3, 4, 6, 5, 700, 8, 9, 0, 0};
        for (int i = 0; i < words.length; i++) {
            Check.tell(y, 0, "pull " + words[i] + "; hard 1 when " + words[i] + " = " + want[i] + "; hard 2;", 3);
            Check.due("pull by " + words[i], y.of(1, 7), want[i]);
            Check.due("hard by " + words[i], y.of(1, 8), 1);
        }
        Check.tell(y, 0, "pull bell * 100 + heavy;", 1);
        for (int b = 0; b < 8; b++) {
            y.set(0, b, 10 + b);
            y.set(4, 1, b);
            Check.due("pull by BELL " + b, y.of(1, 7), 100 * b + 10 + b);
        }
    }

    private static void otherLines() {
        Check.sentence("1 ROPES = {ringer RINGER feels RINGER ;}");
        DeafBells x = ten();
        Check.tell(x, 1, "ringer 0 feels 1;ringer 1 feels 0;ringer 0 feels 1;", 3);
        Check.refused(x, 1, "ringer 0 feels 1 2;", 1, 17);
        Check.refused(x, 1, "ringer 0 feels;", 1, 14);
        Check.refused(x, 1, "ringer 0;", 1, 8);
        Check.refused(x, 1, "ringer feels 1;", 1, 7);
        Check.refused(x, 1, "0 feels 1;", 1, 0);
        Check.sentence("2 DAYS = {at HOUR (wedding | fire | market | death | christening | draught) N ;}");
        Check.refused(x, 2, "at 0;", 1, 4);
        Check.refused(x, 2, "at 0 wedding;", 1, 12);
        Check.refused(x, 2, "at 0 wedding fire 1;", 1, 13);
        Check.refused(x, 2, "at wedding 1;", 1, 3);
        Check.refused(x, 2, "at 0 wedding 1 1;", 1, 15);
        Check.sentence("3 CHANGES = {swap PLACE {PLACE} ;}");
        Check.refused(x, 3, "swap;", 1, 4);
        Check.refused(x, 3, "swap 0 swap 1;", 1, 7);
        Check.refused(x, 3, "swap 0;2;", 1, 7);
        Check.refused(x, 3, "swap 0 2 4 6", 1, 12);
    }

    private static void partByNought() {
        Check.sentence("2 (at the NUMBER) a part by 0");
        DeafBells x = ten();
        for (String nought : new String[] {"0", "00", "0000"}) {
            Check.refused(x, 0, "lost 1 / " + nought + ";", 2, 9);
            Check.refused(x, 0, "lost 1 / 1 / " + nought + ";", 2, 13);
            Check.refused(x, 0, "lost 1 when 1 < 2 / " + nought + ";", 2, 20);
            Check.refused(x, 0, "lost 1 when 1 / " + nought + " < 2;", 2, 16);
            Check.refused(x, 0, "lost 1 / " + nought, 2, 9);
        }
        Check.tell(x, 0, "lost 7 / 1;", 1);
        Check.due("by 1", x.lost(), 7);
        Check.tell(x, 0, "lost 9999 / 9999;", 1);
        Check.due("by 9999", x.lost(), 1);
        Check.tell(x, 0, "lost 9998 / 9999;", 1);
        Check.due("by 9999", x.lost(), 0);
        Check.tell(x, 0, "lost 0 / 5 + 0 * 0;", 1);
    }

    private static void ringersThatAreNot() {
        Check.sentence("a RINGER that there is not; the same RINGER again (of ROPES)");
        DeafBells x = new DeafBells();
        Check.refused(x, 1, "ringer 0 feels 1;", 2, 7);
        x.ringer(0, 0, 0);
        Check.refused(x, 1, "ringer 0 feels 0;", 2, 15);
        for (int many = 2; many <= 10; many++) {
            x.ringer(0, 0, 0);
            int last = many - 1;
            Check.tell(x, 1, "ringer " + last + " feels 0; ringer 0 feels " + last + ";", 2);
            Check.refused(x, 1, "ringer " + many + " feels 0;", 2, 7);
            Check.refused(x, 1, "ringer 0 feels " + many + ";", 2, 15);
            Check.refused(x, 1, "ringer " + last + " feels " + last + ";", 2, 15);
            Check.refused(x, 1, "ringer 9999 feels 0;", 2, 7);
            Check.refused(x, 1, "ringer 0 feels 9999;", 2, 15);
        }
        Check.sentence("(one way; unlike.)");
        Check.tell(x, 1, "ringer 3 feels 7;", 1);
        Check.due("of(3, 6)", x.of(3, 6), 128);
        Check.due("of(7, 6)", x.of(7, 6), 0);
    }

    private static void daysBounds() {
        Check.sentence("one beyond its bounds");
        DeafBells x = new DeafBells();
        for (String what : new String[] {"wedding", "fire", "market", "death", "christening", "draught"}) {
            int most = what.equals("draught") ? 9 : 99;
            int place = 6 + what.length();
            Check.tell(x, 2, "at 0 " + what + " 0; at 23 " + what + " " + most + ";", 2);
            Check.refused(x, 2, "at 24 " + what + " 0;", 2, 3);
            Check.refused(x, 2, "at 9999 " + what + " 0;", 2, 3);
            Check.refused(x, 2, "at 0 " + what + " " + (most + 1) + ";", 2, place);
            Check.refused(x, 2, "at 0 " + what + " 9999;", 2, place);
            Check.refused(x, 2, "at 0 " + what + " ;", 1, place);
        }
    }

    private static void placesBounds() {
        Check.sentence("(PLACES 0 .. 6: each is changed with the one behind it, so much at once; none beside another one of the line, each once.)");
        DeafBells x = new DeafBells();
        for (int p = 0; p <= 6; p++) {
            Check.tell(x, 3, "swap " + p + ";", 1);
            for (int place = 0; place < 8; place++) {
                Check.due("row", x.row(8, 1, place), place == p ? p + 1 : place == p + 1 ? p : place);
            }
            for (int q = 0; q <= 6; q++) {
                if (Math.abs(p - q) <= 1) {
                    Check.refused(x, 3, "swap " + p + " " + q + ";", 2, 7);
                } else {
                    Check.tell(x, 3, "swap " + p + " " + q + ";", 1);
                }
            }
        }
        Check.sentence("a PLACE again, or beside one of its line");
        for (int p : new int[] {7, 8, 31, 32, 33, 64, 100, 9999}) {
            Check.refused(x, 3, "swap " + p + ";", 2, 5);
            Check.refused(x, 3, "swap 0 " + p + ";", 2, 7);
        }
        Check.refused(x, 3, "swap 0 6 3 5;", 2, 11);
        Check.refused(x, 3, "swap 6 4 2 0 0;", 2, 13);
        Check.refused(x, 3, "swap ;", 1, 5);
        Check.tell(x, 3, "swap 0; swap 0; swap 1;", 3);
        Check.tell(x, 3, "swap 6 4 2 0;", 1);
        for (int place = 0; place < 8; place++) {
            Check.due("so much at once", x.row(8, 1, place), place ^ 1);
        }
    }

    private static void seventeenth() {
        Check.sentence("3 (at its KEYWORD) the 17th line of a text");
        String[] lines = {"pull 1;", "ringer 0 feels 1;", "at 0 fire 1;", "swap 3;"};
        for (int k = 0; k < 4; k++) {
            DeafBells x = ten();
            Check.tell(x, k, lines[k].repeat(15), 15);
            Check.tell(x, k, lines[k].repeat(16), 16);
            Check.tell(x, k, lines[k].repeat(16) + "  \n", 16);
            int at = lines[k].length() * 16;
            Check.refused(x, k, lines[k].repeat(17), 3, at);
            Check.refused(x, k, lines[k].repeat(16) + " \n " + lines[k], 3, at + 3);
            Check.refused(x, k, lines[k].repeat(18), 3, at);
            Check.due("the sixteen stay", x.look(8 + k), 16);
        }
        Check.sentence("16 lines of each at most.");
        DeafBells y = ten();
        Check.refused(y, 0, "lost 1;".repeat(5) + "pull 1;".repeat(6) + "hard 1;".repeat(6), 3, 112);
    }

    private static void ninthOpen() {
        Check.sentence("(at it) the 9th ( or not that is open");
        for (int nots = 0; nots <= 9; nots++) {
            DeafBells x = ten();
            String head = "pull 7 when " + "not ".repeat(nots);
            for (int open = 0; open <= 9 - nots; open++) {
                String text = head + "(".repeat(open) + "1=1" + ")".repeat(open) + ";";
                if (nots + open <= 8) {
                    Check.tell(x, 0, text, 1);
                    Check.due(text, x.of(0, 7), nots % 2 == 0 ? 7 : 100);
                } else if (open == 0) {
                    Check.refused(x, 0, text, 3, head.length() - 4);
                } else {
                    Check.refused(x, 0, text, 3, head.length() + open - 1);
                }
            }
        }
        DeafBells y = ten();
        String eight = "((((((((1=1))))))))";
        Check.tell(y, 0, "pull 7 when " + eight + " and " + eight + " or not not not not not not not not 1=1 and not " + eight.substring(1, 18) + ";", 1);
        Check.tell(y, 0, "pull 7 when " + eight + "; hard 1 when " + eight + ";", 2);
        Check.refused(y, 0, "pull 7 when (((((((1=1 and (1=1 or (1=1))))))))));", 3, 35);
        Check.refused(y, 0, "pull 7 when ((((((((1=1 and not 1=1))))))));", 3, 28);
        Check.tell(y, 0, "pull 7 when (((((((1=1 and not 1=2 or (1=1))))))));", 1);
    }

    private static void firstByPlace() {
        Check.sentence("FAULTS, the first by its place, at one place the least");
        DeafBells x = ten();
        Check.refused(x, 0, "pull 1/0 $", 2, 7);
        Check.refused(x, 0, "pull $ 1/0;", 1, 5);
        Check.refused(x, 0, "pull 1 when (((((((((1/0", 3, 20);
        Check.refused(x, 0, "pull 1/0 when (((((((((1", 2, 7);
        Check.refused(x, 0, "pull 1;".repeat(16) + "pull 1/0;", 3, 112);
        Check.refused(x, 0, "pull 1;".repeat(15) + "pull 1/0;pull", 2, 112);
        Check.refused(x, 0, "pull 1;".repeat(15) + "pull 1 pull 1;pull 1;", 1, 112);
        Check.refused(x, 1, "ringer 10 feels 10 $", 2, 7);
        Check.refused(x, 1, "ringer 0 feel 10;", 1, 9);
        Check.refused(x, 2, "at 24 $", 2, 3);
        Check.refused(x, 2, "at 2 4 wedding 100;", 1, 5);
        Check.refused(x, 3, "swap 0 1 7 $", 2, 7);
        Check.refused(x, 3, "swap 0 $ 1;", 1, 7);
    }

    private static void leastAtOnePlace() {
        Check.sentence("at one place the least");
        DeafBells x = ten();
        String[] lines = {"pull 1;", "ringer 0 feels 1;", "at 0 fire 1;", "swap 3;"};
        for (int k = 0; k < 4; k++) {
            int at = lines[k].length() * 16;
            for (String bad : new String[] {"$", "when", ";", "7", "(", "pulls"}) {
                Check.refused(x, k, lines[k].repeat(16) + bad, 1, at);
            }
        }
        Check.refused(x, 0, "pull 1 when ((((((((1 < (2;", 1, 24);
        Check.refused(x, 0, "pull 1 when ((((((((1 < not 2;", 1, 24);
        Check.refused(x, 0, "pull 1 when ((((((((1=1(1=1;", 1, 23);
        Check.refused(x, 0, "pull (((((((((1;", 1, 5);
    }

    private static void firstLineThatIsSo() {
        Check.sentence("E of the first line with that word whose B is so, or that has none (none: pull: 100 and 9 times hunger and 5 times folk, hard: 1 and arm by 3, lost: sway by 4)");
        DeafBells x = new DeafBells();
        x.ringer(0, 3, 7);
        x.set(5, 0, 11);
        x.set(1, 0, 13);
        x.set(3, 0, 403);
        int[][] want = {{264, 3, 100}, {1, 3, 100}, {2, 3, 100}, {264, 4, 100}, {264, 3, 5}, {264, 3, 100}, {8, 3, 100}};
        String[] laws = {"", "pull 1; pull 2;", "pull 1 when feel = 4; pull 2; pull 3;", "hard 4;", "lost 5; lost 6;",
            "pull 1 when 1 = 2; hard 2 when 1 = 2; lost 3 when 1 = 2;", "pull 7 when feel > 3; pull 8 when feel = 3; pull 9 when feel = 3;"};
        for (int i = 0; i < laws.length; i++) {
            Check.tell(x, 0, laws[i], laws[i].length() - laws[i].replace(";", "").length());
            Check.due("pull by " + laws[i], x.of(0, 7), want[i][0]);
            Check.due("hard by " + laws[i], x.of(0, 8), want[i][1]);
            Check.due("lost by " + laws[i], x.lost(), want[i][2]);
        }
        Check.tell(x, 0, "lost 1;".repeat(15) + "pull 9;", 16);
        Check.due("the sixteenth line", x.of(0, 7), 9);
    }

    private static void heldWorth() {
        Check.sentence("pull held to 0 .. 1000, hard to 0 .. 9, lost to 0 .. 9999");
        DeafBells x = ten();
        int[][] want = {{999, 999}, {1000, 1000}, {1001, 1000}, {9999, 1000}, {0, 0}};
        for (int[] w : want) {
            Check.tell(x, 0, "pull " + w[0] + "; hard " + w[0] + "; lost " + w[0] + ";", 3);
            Check.due("pull " + w[0], x.of(0, 7), w[1]);
            Check.due("hard " + w[0], x.of(0, 8), Math.min(9, w[0]));
            Check.due("lost " + w[0], x.lost(), w[0]);
        }
        Check.tell(x, 0, "pull 0 - 1; hard 0 - 1; lost 0 - 1;", 3);
        Check.due("pull", x.of(0, 7), 0);
        Check.due("hard", x.of(0, 8), 0);
        Check.due("lost", x.lost(), 0);
        Check.tell(x, 0, "hard 8; lost 9999 + 1;", 2);
        Check.due("hard 8", x.of(0, 8), 8);
        Check.due("lost 10000", x.lost(), 9999);
        Check.tell(x, 0, "hard 9; lost 9998;", 2);
        Check.due("hard 9", x.of(0, 8), 9);
        Check.due("lost 9998", x.lost(), 9998);
        Check.tell(x, 0, "hard 10;", 1);
        Check.due("hard 10", x.of(0, 8), 9);
        x.set(5, 0, 99);
        Check.tell(x, 0, "", 0);
        Check.due("100 and 891", x.of(0, 7), 991);
        x.set(1, 0, 2);
        Check.due("1001", x.of(0, 7), 1000);
    }

    private static void so(DeafBells x, String truth, boolean want) {
        Check.tell(x, 0, "lost 1 when " + truth + ";lost 0;", 2);
        Check.due(truth, x.lost(), want ? 1 : 0);
    }

    private static void wraps() {
        Check.sentence("Ints, which wrap; / goes towards 0.");
        DeafBells x = new DeafBells();
        // the greatest int is 2147483647
        so(x, "2147*1000*1000+4836*100+47 > 0", true);
        so(x, "2147*1000*1000+4836*100+48 < 0", true);
        so(x, "0-2147*1000*1000-4836*100-48 < 0", true);
        so(x, "0-2147*1000*1000-4836*100-49 > 0", true);
        so(x, "2147*1000*1000+4836*100+48 = 0-2147*1000*1000-4836*100-48", true);
        so(x, "8192*8192*64 = 0", true);
        so(x, "8192*8192*32 < 0", true);
        so(x, "8192*8192*16 > 0", true);
    }

    private static void towardsNought() {
        Check.sentence("/ goes towards 0");
        DeafBells x = new DeafBells();
        // 8192 * 8192 * 32 is the least int
        so(x, "8192*8192*32/9999 = 0-2147*100-69", true);
        so(x, "8192*8192*63/9999 = 0-6711", true);
        so(x, "8192*8192*63/8192/8192 = 0-1", true);
        so(x, "8192*8192*63/8192/8192/2 = 0", true);
        so(x, "8192*8192*61/8192/8192/2 = 0-1", true);
        so(x, "7/2 = 3", true);
        so(x, "1/2 = 0", true);
        so(x, "0/2 = 0", true);
    }

    private static void longLawsAgain() {
        Check.sentence("is TEXT k: how many lines");
        DeafBells x = ten();
        for (int i = 1; i <= 9; i++) {
            Check.tell(x, 0, "pull " + i + " when " + "1=1 and ".repeat(40) + "1=1;", 1);
            Check.due("pull of the latest", x.of(0, 7), i);
        }
        Check.tell(x, 0, "lost " + "1+".repeat(196) + "1;", 1);
        Check.due("the longest", x.lost(), 197);
        Check.tell(x, 0, "pull 5 when not not not 1=2;", 1);
        Check.tell(x, 0, "pull 6 when 1=1;", 1);
        Check.due("nothing is left of the former", x.of(0, 7), 6);
    }

    private static void lostRestNought() {
        Check.sentence("lost: sway, folk, draught, hour; the rest 0.");
        DeafBells x = new DeafBells();
        x.ringer(5, 6, 7);
        x.set(0, 0, 8);
        x.set(0, 5, 9);
        x.set(5, 0, 10);
        x.set(6, 0, 11);
        for (String word : new String[] {"feel", "arm", "hunger", "tired", "bell", "heavy", "felt"}) {
            Check.tell(x, 0, "lost 5 + " + word + ";", 1);
            Check.due("lost by " + word, x.lost(), 5);
            so(x, word + " = 0", true);
            x.set(3, 0, 100);
            Check.tell(x, 0, "pull 0; lost 5 + " + word + ";", 2);
            x.hours(1);
            Check.due("SWAY lost by " + word, x.look(4), 95);
        }
        x.set(1, 0, 3);
        x.set(2, 0, 4);
        x.set(3, 0, 5);
        Check.tell(x, 0, "lost sway * 1000 + folk * 100 + draught * 10 + hour;", 1);
        Check.due("lost, at hour 7", x.lost(), 5347);
    }

    private static void feltOfTheHour() {
        Check.sentence("felt: how many he feels (ROPES) have pulled this HOUR already (by hand not)");
        DeafBells x = ten();
        Check.tell(x, 1, "ringer 0 feels 9;ringer 9 feels 0;ringer 9 feels 1;ringer 9 feels 2;ringer 9 feels 3;ringer 9 feels 4;ringer 9 feels 5;ringer 9 feels 6;"
            + "ringer 9 feels 7;ringer 9 feels 8;ringer 8 feels 7;ringer 8 feels 9;", 12);
        Check.tell(x, 0, "pull 1000; hard felt;", 2);
        Check.due("by hand", x.pull(9), 0);
        Check.due("of(9, 8)", x.of(9, 8), 0);
        Check.due("hours(1)", x.hours(1), 10);
        int[] hard = {0, 0, 0, 0, 0, 0, 0, 0, 1, 9};
        for (int r = 0; r < 10; r++) {
            Check.due("hard of " + r, x.book(1 + r, 3), hard[r]);
        }
        Check.due("by hand then", x.pull(9), 0);
        Check.tell(x, 0, "pull 1000 when feel < 3; pull 333 * felt;", 2);
        Check.tell(x, 1, "ringer 3 feels 0;ringer 3 feels 1;ringer 3 feels 2;ringer 3 feels 4;ringer 4 feels 3;ringer 5 feels 6;", 6);
        Check.due("thought: 3 pulls by 999, 4 by 333 not", x.goes(1, 1), strokes(x) + 1 + 1 + 1 + 2);
    }

    private static int strokes(DeafBells x) {
        int sum = 0;
        for (int b = 0; b < 8; b++) {
            sum += x.bell(b, 1);
        }
        return sum;
    }
}
