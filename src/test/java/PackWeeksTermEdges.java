/** Each sentence of the terms that says how a TAPE, a PACK or WEEKS may be told: both ends, empty, full, one too many. */
public final class PackWeeksTermEdges extends Asking {
    private static final String G = "grid 3 4;";
    private static final String KEPT = "grid drift thing at lead round from for crew men biscuit pace gap opens nips sign often load worth "
            + "takes eat look break haul lend home north east south west still ship hut bear cairn not and or";
    private static final String CREWS = "grid 4 3;thing s ship at 0 0;thing t ship at 1 0;thing u ship at 1 0;thing h hut at 1 1;"
            + "crew t men 1 biscuit 5;crew s men 1 biscuit 5;gap g opens 0 nips 0;";
    private static final long EIGHT = 0x6161616161616161L;

    /** The NUMBER that stands for a # goes from least to most; one less, one more and the greatest are FAULT 4. */
    private static void goes(String text, int least, int most) {
        due(text + " " + least, pack(new PackWeeks(), text.replace("#", "" + least)), 0);
        due(text + " " + most, pack(new PackWeeks(), text.replace("#", "" + most)), 0);
        int[] beyond = {least - 1, most + 1, 9999};
        for (int number : beyond) {
            if (number >= 0 && number <= 9999 && (number < least || number > most)) {
                fault(4, text.replace("#", "|" + number));
            }
        }
        fault(1, text.replace("#", "|10000"));
        fault(1, text.replace("#", "|- 1"));
        fault(1, text.replace("#", "|x"));
        fault(1, text.replace("#", "|;"));
    }

    private static void weekRight(String text) {
        due("weeks of '" + text + "'", weeks(of(CREWS), text), 0);
    }

    /** On a new object each time, since one is used for 512 calls at most. */
    private static void weekWrong(int kind, String text) {
        weekFault(of(CREWS), kind, text);
    }

    private static void weekGoes(String text, int least, int most) {
        weekRight(text.replace("#", "" + least));
        weekRight(text.replace("#", "" + most));
        int[] beyond = {least - 1, most + 1, 9999};
        for (int number : beyond) {
            if (number >= 0) {
                weekWrong(4, text.replace("#", "|" + number));
            }
        }
        weekWrong(1, text.replace("#", "|10000"));
        weekWrong(1, text.replace("#", "|- 1"));
        weekWrong(1, text.replace("#", "|x"));
    }

    private static boolean among(String words, String word) {
        return (" " + words + " ").contains(" " + word + " ");
    }

    /** A whole PACK of so many signs. */
    private static String packOf(int length) {
        StringBuilder s = new StringBuilder("grid 3 2;eat 1");
        while (s.length() + 2 <= length - 1) {
            s.append("+1");
        }
        while (s.length() < length - 1) {
            s.append(' ');
        }
        return s + ";";
    }

    private static void tapeSigns() {
        about = "The TAPE has signs 10 and 32 .. 126; others are left out";
        for (int sign = 0; sign < 256; sign++) {
            int kept = sign == 10 || sign >= 32 && sign <= 126 ? 1 : 0;
            PackWeeks x = new PackWeeks();
            due("feed of " + sign + " ahead", x.feed((long) sign << 56, 0, 0), kept);
            due("feed of " + sign + " behind", x.feed(0, 0, sign), 2 * kept);
            due("feed of " + sign + " between", x.feed(0, (long) sign << 24, 0), 3 * kept);
        }
        PackWeeks x = new PackWeeks();
        due("feed of nothing", x.feed(0, 0, 0), 0);
        due("feed of bytes that are no signs", x.feed(-1, Long.MIN_VALUE, 0x1F7F09FF80818283L), 0);
        due("feed of one", x.feed(0x6700000000000000L, 0, 0), 1);
        due("feed of 23", x.feed(0x61616161616161L, EIGHT, EIGHT), 24);
        due("feed of 24", x.feed(EIGHT, EIGHT, EIGHT), 48);
        due("count(12)", x.count(12), 48);
    }

    private static void tapeFull() {
        about = "The TAPE has at most 1,000 signs; what is beyond is left out";
        PackWeeks x = new PackWeeks();
        due("feed of 999", feedText(x, packOf(999)), 999);
        due("feed of one more", x.feed(0, 0, 32), 1000);
        due("feed of one beyond", x.feed(0, 0, 'z'), 1000);
        due("feed of 24 beyond", x.feed(EIGHT, EIGHT, EIGHT), 1000);
        due("feed of nothing", x.feed(0, 0, 0), 1000);
        due("pack() of the first 1000", x.pack(), 0);
        PackWeeks y = new PackWeeks();
        due("feed of 1000", feedText(y, packOf(1000)), 1000);
        due("pack()", y.pack(), 0);
        due("count(0)", y.count(0), 3);
        PackWeeks z = new PackWeeks();
        due("feed of 1001, whose last is the ;", feedText(z, packOf(1001)), 1000);
        due("pack() without it", z.pack(), 1 + 16 * 1000);
        PackWeeks signs = new PackWeeks();
        due("feed of 1000 tokens", feedText(signs, times(1000, ";")), 1000);
        due("pack() of them", signs.pack(), 1);
        due("feed of 1000 tokens", feedText(signs, times(1000, "+")), 1000);
        due("weeks() of them", signs.weeks(), 1);
        due("pack() behind them", pack(signs, packOf(1000)), 0);
        PackWeeks w = new PackWeeks();
        feedText(w, packOf(990));
        due("feed of 24, of which 10 come behind 990", w.feed(0x2020202020202020L, 0x20207A7A7A7A7A7AL, EIGHT), 1000);
        due("pack()", w.pack(), 0);
    }

    private static void tapeTaken() {
        about = "What reads the TAPE takes it: it is empty then";
        PackWeeks x = new PackWeeks();
        due("pack", pack(x, "grid 3 3;"), 0);
        due("count(12)", x.count(12), 0);
        due("pack() of the empty TAPE", x.pack(), 1);
        due("a FAULT", pack(x, "grid 9 3;"), 4 + 16 * 5);
        due("count(12) behind a FAULT", x.count(12), 0);
        due("weeks", weeks(x, "drift 2;"), 0);
        due("count(12)", x.count(12), 0);
        due("a FAULT", weeks(x, "drift 2"), 1 + 16 * 7);
        due("count(12) behind a FAULT", x.count(12), 0);
        due("count(9)", x.count(9), 1);
        due("weeks() of the empty TAPE", x.weeks(), 0);
        due("count(9)", x.count(9), 0);
        due("feed anew", x.feed(0, 0, 'g'), 1);
        due("pack() of it alone", x.pack(), 1);
    }

    private static void words() {
        about = "WORDS: letters a .. z, 8 at most; a longer one is none at its first sign";
        right(G + "thing a hut at 0 0;");
        right(G + "thing abcdefgh hut at 0 0;");
        right(G + "thing z hut at 0 0;thing zzzzzzzz hut at 0 0;thing zzzzzzz hut at 0 0;");
        fault(1, G + "thing |abcdefghi hut at 0 0;");
        fault(1, G + "thing |zzzzzzzzzzzzzzzzzzzzzzzzzzzzz hut at 0 0;");
        fault(1, "|gridgrid 2 2;");
        fault(1, "|gridgridg 2 2;");
        fault(1, "|gri 2 2;");
        fault(1, "|grid" + times(900, "a") + " 2 2;");
        fault(3, G + "thing abcdefgh hut at 0 0;thing |abcdefgh hut at 0 0;");
        right(G + "thing abcdefgh hut at 0 0;thing abcdefgi hut at 0 0;thing abcdefg hut at 0 0;thing bcdefgh hut at 0 0;");
    }

    private static void numbers() {
        about = "NUMBERS: 1 to 4 digits; a letter may stand right behind; a longer one is none at its first sign";
        right("grid 2 02;");
        right("grid 0002 008;");
        fault(1, "grid |00002 2;");
        fault(1, "grid 2 |00000;");
        fault(1, "grid 2 |22222222222222222222222222222222222222222;");
        right("grid2 2;drift0east0 1;drift 1still1 1;");
        right(G + "lead 0 0round 1from 0for 1;thing s ship at 2 3;crew s men 30biscuit 9999;eat 1or 0and 3;");
        fault(1, "grid 2|a 2;");
        fault(1, "grid 2 2|grid;");
        due("men and biscuit", of("grid 2 2;thing s ship at 0 0;crew s men 0030biscuit0099;").crew(0, 2), 99);
    }

    private static void otherSigns() {
        about = "All else is none";
        String signs = "()<=+-*;";
        for (char sign = 33; sign < 127; sign++) {
            boolean letter = sign >= 'a' && sign <= 'z';
            if (!letter) {
                fault(1, G + "thing a|" + sign + "hut at 0 0;");
                fault(1, "|" + sign + "grid 2 2;");
            }
            boolean digit = sign >= '0' && sign <= '9';
            if (!letter && !digit && signs.indexOf(sign) < 0) {
                fault(1, G + "eat 1|" + sign + "1;");
                fault(1, G + "eat |" + sign + ";");
                fault(1, G + "drift 0 east 0 0|" + sign);
            }
        }
        right(G + "eat(1<2)+3*4-5=6;");
    }

    private static void blanks() {
        about = "Blanks (10, 32) between TOKENS where one likes";
        right("grid 2 2;");
        right("\n\n  grid\n2 \n 2  ;\n ");
        right("grid2 2;eat(1+2)*3<4and not 0;");
        fault(1, "|gr id 2 2;");
        fault(4, "grid |22 ;");
        fault(1, "grid\n2\n2|");
        fault(1, "grid 2 2 \n  |");
        fault(1, "  |");
        fault(1, "|");
    }

    private static void grid() {
        about = "grid N N ; first (over 2 to 8, down 2 to 8)";
        goes("grid # 2;", 2, 8);
        goes("grid # 8;", 2, 8);
        goes("grid 2 #;", 2, 8);
        goes("grid 8 #;", 2, 8);
        for (int over = 2; over <= 8; over++) {
            for (int down = 2; down <= 8; down++) {
                PackWeeks x = of("grid " + over + " " + down + ";");
                due("count(0)", x.count(0), over);
                due("count(1)", x.count(1), down);
                due("the last PLACE", x.flow(over - 1, down - 1), 4);
                due("beyond, over", x.flow(over, 0), -1);
                due("beyond, down", x.flow(0, down), -1);
            }
        }
        about = "Another line than grid first, grid again: FAULT 1";
        for (String first : KEPT.split(" ")) {
            if (!first.equals("grid")) {
                fault(1, "|" + first + " 2 2;");
            }
        }
        fault(1, "|;grid 2 2;");
        fault(1, "|2 grid 2 2;");
        fault(1, "grid 2 2;|grid 2 2;");
        fault(1, G + "pace 1;|grid 3 4;");
        fault(1, "grid |grid 2 2;");
        fault(1, "grid 2 2 |2;");
        fault(1, "grid 2 2|");
    }

    private static void anyNumberOfLines() {
        about = "Then any number of lines";
        right("grid 2 2;");
        right("grid 2 2;" + times(45, "drift 0 still 0 1;"));
        String[] lines = {"drift 0 east 0 0;", "thing a ship at 0 0;", "lead 0 0 round 1 from 0 for 0;", "crew a men 1 biscuit 0;", "pace 1;",
            "gap b opens 0 nips 0;", "sign c often 1;", "load d worth 0 takes 1;", "eat 1;", "look 1;", "break 1;"};
        StringBuilder all = new StringBuilder("grid 2 2;");
        for (String line : lines) {
            all.append(line);
        }
        right(all.toString());
        // any order, but for a crew behind its ship
        right("grid 2 2;" + lines[10] + lines[9] + lines[8] + lines[7] + lines[6] + lines[5] + lines[4] + lines[2] + lines[1] + lines[3] + lines[0]);
        for (String line : lines) {
            String told = "grid 2 2;" + (line.startsWith("crew") ? lines[1] : "");
            right(told + line);
            fault(1, told + line.substring(0, line.length() - 1) + "|");
            fault(1, told + line + "|;");
            fault(1, told + line + "|x");
            fault(1, told + line.replace(";", " |ship;"));
        }
    }

    private static void drifts() {
        about = "drift: in a row (from 0) all PLACES from one (over) to another one, no less";
        goes(G + "drift # east 0 0;", 0, 3);
        goes(G + "drift 0 east # 2;", 0, 2);
        goes(G + "drift 0 east 0 #;", 0, 2);
        goes(G + "drift 0 east 1 #;", 1, 2);
        goes(G + "drift 0 east 2 #;", 2, 2);
        goes("grid 8 8;drift # west 7 7;", 0, 7);
        goes("grid 8 8;drift 7 west # 7;", 0, 7);
        goes("grid 2 2;drift 1 west 1 #;", 1, 1);
        PackWeeks x = of("grid 4 3;drift 1 south 1 2;drift 2 west 0 3;drift 0 north 3 3;");
        int[][] flows = {{4, 4, 4, 0}, {4, 2, 2, 4}, {3, 3, 3, 3}};
        for (int y = 0; y < 3; y++) {
            for (int over = 0; over < 4; over++) {
                due("flow(" + over + ", " + y + ")", x.flow(over, y), flows[y][over]);
            }
        }
        about = "FLOW: north, east, south, west, still";
        String[] ways = {"north", "east", "south", "west", "still"};
        for (int i = 0; i < ways.length; i++) {
            due(ways[i], of("grid 2 2;drift 0 " + ways[i] + " 0 0;").flow(0, 0), i);
        }
        for (String other : (KEPT + " up n nort norths 1").split(" ")) {
            if (!among("north east south west still", other)) {
                fault(1, "grid 2 2;drift 0 |" + other + " 0 0;");
            }
        }
        about = "Later lines tell over earlier ones (without any: still)";
        PackWeeks y = of("grid 3 2;drift 0 east 0 2;drift 0 west 1 1;drift 0 still 2 2;");
        due("flow(0, 0)", y.flow(0, 0), 1);
        due("flow(1, 0)", y.flow(1, 0), 3);
        due("flow(2, 0)", y.flow(2, 0), 4);
        due("flow(2, 1)", y.flow(2, 1), 4);
        due("pack anew", pack(y, "grid 3 2;"), 0);
        due("without any: still", y.flow(0, 0), 4);
    }

    private static void things() {
        about = "thing: 6 at most, numbered as told";
        due("none", of(G).count(2), 0);
        PackWeeks six = of(G + times(6, "thing # cairn at 0 0;"));
        due("count(2)", six.count(2), 6);
        due("thing(5, 0)", six.thing(5, 0), 3);
        dueThrow("thing(6, 0)", () -> six.thing(6, 0));
        fault(5, G + times(6, "thing # cairn at 0 0;") + "|thing g cairn at 0 0;");
        fault(5, G + times(6, "thing # cairn at 0 0;") + "|thing a grid");
        fault(5, G + times(6, "thing # cairn at 0 0;") + "|thing");
        PackWeeks x = of(G + "thing b hut at 1 0;thing a hut at 2 0;");
        due("the first told", x.thing(0, 1), 1);
        due("the second told", x.thing(1, 1), 2);
        about = "KIND: ship, hut, bear, cairn";
        String[] kinds = {"ship", "hut", "bear", "cairn"};
        for (int i = 0; i < kinds.length; i++) {
            due(kinds[i], of(G + "thing a " + kinds[i] + " at 0 0;").thing(0, 0), i);
        }
        for (String other : "at north still crew not house ships hu 1 ;".split(" ")) {
            fault(1, G + "thing a |" + other + " at 0 0;");
        }
        about = "at: a PLACE (over, down)";
        goes(G + "thing a hut at # 0;", 0, 2);
        goes(G + "thing a hut at # 3;", 0, 2);
        goes(G + "thing a hut at 0 #;", 0, 3);
        goes(G + "thing a hut at 2 #;", 0, 3);
        goes("grid 8 2;thing a hut at # 1;", 0, 7);
        goes("grid 2 8;thing a hut at 1 #;", 0, 7);
        fault(1, G + "thing a hut |0 0;");
        fault(1, G + "thing a hut |from 0 0;");
    }

    private static String lead(int over, int down) {
        return "lead " + over + " " + down + " round 1 from 0 for 1;";
    }

    private static void leads() {
        about = "pace, eat, look, break: once in each PACK";
        PackWeeks again = new PackWeeks();
        for (int i = 0; i < 4; i++) {
            due("pack " + i, pack(again, G + "pace 1;eat 1;look 1;break 1;"), 0);
        }
        about = "lead: 6 at most: a PLACE, each once";
        String six = lead(0, 0) + lead(1, 0) + lead(2, 0) + lead(0, 1) + lead(0, 2) + lead(1, 1);
        due("none", of(G).count(3), 0);
        due("count(3)", of(G + six).count(3), 6);
        fault(5, G + six + "|" + lead(2, 3));
        fault(5, G + six + "|" + lead(0, 0));
        fault(5, G + six + "|lead");
        goes(G + "lead # 0 round 1 from 0 for 0;", 0, 2);
        goes(G + "lead 0 # round 1 from 0 for 0;", 0, 3);
        goes("grid 8 8;lead # 7 round 1 from 0 for 0;", 0, 7);
        goes("grid 8 8;lead 7 # round 1 from 0 for 0;", 0, 7);
        fault(3, G + lead(2, 3) + "lead 2 |3 round 1 from 0 for 1;");
        fault(3, G + lead(0, 0) + lead(1, 1) + "lead 0 |0 grid");
        fault(3, G + lead(0, 0) + lead(1, 1) + "lead 1 |1");
        fault(1, G + lead(0, 0) + "lead 0 |round");
        fault(4, G + lead(0, 0) + "lead |3 0;");
        fault(4, G + lead(0, 0) + "lead 0 |4;");
        right(G + lead(1, 2) + lead(2, 1) + lead(1, 1) + lead(2, 2));
        about = "lead: round 1 to 30, from 0 to round less 1, for 0 to round";
        goes(G + "lead 0 0 round # from 0 for 0;", 1, 30);
        int[] rounds = {1, 2, 29, 30};
        for (int round : rounds) {
            goes(G + "lead 0 0 round " + round + " from # for 0;", 0, round - 1);
            goes(G + "lead 0 0 round " + round + " from 0 for #;", 0, round);
            goes(G + "lead 0 0 round " + round + " from " + (round - 1) + " for #;", 0, round);
        }
        fault(1, G + "lead 0 0 |from 0 for 0;");
        fault(1, G + "lead 0 0 round 1 |for 0;");
        fault(1, G + "lead 0 0 round 1 from 0 |;");
    }

    private static void crews() {
        String s = "grid 2 2;thing s ship at 0 0;thing t ship at 0 0;thing u ship at 0 0;thing h hut at 0 0;thing b bear at 0 0;thing c cairn at 0 0;"
                + "gap g opens 0 nips 0;sign i often 1;load l worth 1 takes 1;";
        about = "crew: 2 at most";
        due("none", of(s).count(4), 0);
        String two = "crew u men 1 biscuit 0;crew s men 1 biscuit 0;";
        PackWeeks x = of(s + two);
        due("count(4)", x.count(4), 2);
        due("crew(0, 0)", x.crew(0, 0), 2);
        due("crew(1, 0)", x.crew(1, 0), 0);
        due("thing(2, 3)", x.thing(2, 3), 0);
        due("thing(0, 3)", x.thing(0, 3), 1);
        due("thing(1, 3)", x.thing(1, 3), -1);
        fault(5, s + two + "|crew t men 1 biscuit 0;");
        fault(5, s + two + "|crew s men 1 biscuit 0;");
        fault(5, s + two + "|crew nobody");
        fault(5, s + two + "|crew");
        about = "its NAME that of a thing told that is a ship, each ship one at most";
        for (String none : "h b c g i l nobody ss step".split(" ")) {
            fault(2, s + "crew |" + none + " men 1 biscuit 0;");
        }
        fault(2, "grid 2 2;crew |s men 1 biscuit 0;thing s ship at 0 0;");
        fault(3, s + "crew s men 1 biscuit 0;crew |s men 1 biscuit 0;");
        fault(1, s + "crew |1 men 1 biscuit 0;");
        fault(1, s + "crew |; men 1 biscuit 0;");
        fault(1, s + "crew |abcdefghi men 1 biscuit 0;");
        about = "men 1 to 30, biscuit 0 to 9999";
        goes(s + "crew s men # biscuit 0;", 1, 30);
        goes(s + "crew s men 1 biscuit #;", 0, 9999);
        PackWeeks y = of(s + "crew s men 30 biscuit 9999;crew t men 1 biscuit 0;");
        due("crew(0, 1)", y.crew(0, 1), 30);
        due("crew(0, 2)", y.crew(0, 2), 9999);
        due("crew(1, 1)", y.crew(1, 1), 1);
        due("crew(1, 2)", y.crew(1, 2), 0);
        fault(1, s + "crew s |biscuit 0;");
        fault(1, s + "crew s men 1 |men 1;");
    }

    /** Whether a sledge can be hauled so far, straight over. */
    private static boolean goesFar(String paceLine, int far) {
        return of("grid 8 2;thing s ship at 0 0;crew s men 1 biscuit 0;" + paceLine).haul(0, far, 0);
    }

    private static void pace() {
        about = "pace 1 to 4 (2), once";
        goes(G + "pace #;", 1, 4);
        for (int pace = 1; pace <= 4; pace++) {
            due("so far as pace " + pace, goesFar("pace " + pace + ";", pace), true);
            due("farther than pace " + pace, goesFar("pace " + pace + ";", pace + 1), false);
        }
        due("2 without it", goesFar("", 2), true);
        due("2 without it", goesFar("", 3), false);
        fault(3, G + "pace 1;|pace 1;");
        fault(3, G + "pace 1;eat 1;|pace;");
        PackWeeks x = of("grid 8 2;pace 4;thing s ship at 0 0;crew s men 1 biscuit 0;");
        pack(x, "grid 8 2;thing s ship at 0 0;crew s men 1 biscuit 0;");
        due("2 in a new PACK", x.haul(0, 3, 0), false);
    }

    private static void gapsSignsLoads() {
        about = "gap: 5 at most; opens 0 to 10, nips 0 to 10";
        due("none", of(G).count(6), 0);
        due("count(6)", of(G + times(5, "gap # opens 1 nips 1;")).count(6), 5);
        fault(5, G + times(5, "gap # opens 1 nips 1;") + "|gap f opens 1 nips 1;");
        fault(5, G + times(5, "gap # opens 1 nips 1;") + "|gap a");
        goes(G + "gap a opens # nips 0;", 0, 10);
        goes(G + "gap a opens 0 nips #;", 0, 10);
        about = "sign: 6 at most; often 1 to 99";
        due("none", of(G).count(7), 0);
        due("count(7)", of(G + times(6, "sign # often 1;")).count(7), 6);
        fault(5, G + times(6, "sign # often 1;") + "|sign g often 1;");
        fault(5, G + times(6, "sign # often 1;") + "|sign a");
        goes(G + "sign a often #;", 1, 99);
        about = "load: 6 at most; worth 0 to 999, takes 1 to 9 steps";
        due("none", of(G).count(8), 0);
        due("count(8)", of(G + times(6, "load # worth 1 takes 1;")).count(8), 6);
        fault(5, G + times(6, "load # worth 1 takes 1;") + "|load g worth 1 takes 1;");
        fault(5, G + times(6, "load # worth 1 takes 1;") + "|load a");
        goes(G + "load a worth # takes 1;", 0, 999);
        goes(G + "load a worth 0 takes #;", 1, 9);
        about = "eat, look, break: once each";
        for (String law : "eat look break".split(" ")) {
            right(G + law + " 1;");
            fault(3, G + law + " 1;|" + law + " 1;");
            fault(3, G + law + " 1;|" + law + ";");
            fault(3, G + law + " 1;drift 0 east 0 0;|" + law);
        }
    }

    private static void full() {
        about = "All there can be at once";
        // 6 things, 6 leads, 2 crews, 5 gaps, 6 signs, 6 loads, pace, three laws: under 1,000 signs
        String text = G + "thing a ship at 0 0;thing b ship at 1 0;thing c hut at 2 0;thing d bear at 0 1;thing e cairn at 1 1;thing f bear at 2 3;"
                + lead(0, 0) + lead(1, 0) + lead(2, 0) + lead(0, 1) + lead(0, 2) + lead(2, 3)
                + "crew a men 30 biscuit 9999;crew b men 30 biscuit 9999;pace 4;"
                + times(5, "gap g# opens 9 nips 9;") + times(6, "sign s# often 99;") + times(6, "load l# worth 999 takes 9;") + "eat 99;look 99;break 0;";
        due("its length is below 1000", text.length() < 1000 ? 1 : 0, 1);
        PackWeeks x = of(text);
        int[] counts = {3, 4, 6, 6, 2, 0, 5, 6, 6, 0, 0, 0, 0};
        for (int what = 0; what < counts.length; what++) {
            due("count(" + what + ")", x.count(what), counts[what]);
        }
        due("all loads", x.carry(0), 6 * 999000);
        due("the dearest looks", x.lost(30, 0), 5 * 99);
        int[] rows = {3, 3, 4, 4, 4, 5};
        due("six signs alike", x.code(-1), 99 * 23);
        for (int i = 0; i < rows.length; i++) {
            due("code(" + i + ")", x.code(i), rows[i]);
        }
    }

    private static void weeksTold() {
        about = "WEEKS: any number of lines, 24 at most";
        PackWeeks x = of(CREWS);
        due("none", weeks(x, ""), 0);
        due("count(9)", x.count(9), 0);
        due("blanks alone", weeks(x, " \n "), 0);
        due("count(9)", x.count(9), 0);
        due("one", weeks(x, "home s;"), 0);
        due("count(9)", x.count(9), 1);
        for (String line : new String[] {"drift 1;", "haul s 0 1;", "lend t 1;", "home t;"}) {
            PackWeeks y = of(CREWS);
            due("24 of " + line, weeks(y, times(24, line)), 0);
            due("count(9)", y.count(9), 24);
            weekFault(y, 5, times(24, line) + "|" + line);
            due("count(9) stays", y.count(9), 24);
            weekWrong(5, times(24, line) + "|" + line.substring(0, line.indexOf(' ')));
            weekWrong(1, line.substring(0, line.length() - 1) + "|");
            weekWrong(1, line + "|;");
            weekWrong(1, line.replace(";", " |9;"));
        }
        weekWrong(1, times(24, "drift 1;") + "|thing");
        weekWrong(1, times(24, "drift 1;") + "|;");
        weekWrong(1, times(24, "drift 1;") + "|#");
        weekWrong(1, times(24, "drift 1;").substring(0, 24 * 8 - 1) + "|drift");
        about = "WEEKS: steps 1 to 30; a PLACE; biscuit 1 to 999";
        weekGoes("drift #;", 1, 30);
        weekGoes("haul s # 0;", 0, 3);
        weekGoes("haul s 3 #;", 0, 2);
        weekGoes("lend t #;", 1, 999);
        about = "WEEKS: NAMES of crews; FAULT 2 for one of no crew";
        for (String line : new String[] {"haul # 0 0;", "lend # 1;", "home #;"}) {
            weekRight(line.replace("#", "s") + line.replace("#", "t"));
            for (String none : "u h g nobody step out abcdefgh".split(" ")) {
                weekWrong(2, line.replace("#", "|" + none));
            }
            for (String kept : KEPT.split(" ")) {
                weekWrong(1, line.replace("#", "|" + kept));
            }
            weekWrong(1, line.replace("#", "|abcdefghi"));
            weekWrong(1, line.replace("#", "|1"));
        }
        about = "WEEKS: other lines are FAULT 1";
        for (String kept : KEPT.split(" ")) {
            if (!among("drift haul lend home", kept)) {
                weekWrong(1, "|" + kept + " 1;");
            }
        }
        weekWrong(1, "|s;");
        weekWrong(1, "drift 1 |east 0 0;");
        PackWeeks bare = new PackWeeks();
        weekFault(bare, 2, "home |s;");
        due("drift without a PACK", weeks(bare, "drift 30;"), 0);
    }

    private static void names() {
        about = "A NAME is another WORD than those that are kept";
        String[] lines = {"thing # hut at 0 0;", "gap # opens 0 nips 0;", "sign # often 1;", "load # worth 1 takes 1;"};
        for (String line : lines) {
            for (String kept : KEPT.split(" ")) {
                fault(1, G + line.replace("#", "|" + kept));
            }
            for (String near : "gri grids crewmen step out day pack weeks a nort nots os judged undo mark".split(" ")) {
                right(G + line.replace("#", near));
            }
        }
        for (String kept : KEPT.split(" ")) {
            fault(1, G + "crew |" + kept + " men 1 biscuit 0;");
        }
        right(G + "thing step ship at 0 0;crew step men 1 biscuit 0;eat step;");
        about = "No two (things, gaps, signs, loads) are alike: FAULT 3";
        for (String one : lines) {
            for (String other : lines) {
                fault(3, G + one.replace("#", "same") + other.replace("#", "|same"));
                fault(3, G + one.replace("#", "abcdefgh") + "pace 1;" + other.replace("#", "|abcdefgh"));
                right(G + one.replace("#", "abcdefgh") + other.replace("#", "abcdefg"));
            }
        }
    }

    private static void faults() {
        about = "FAULTS: kind + 16 * the place of a token, the end being one at the text's length";
        due("of nothing", pack(new PackWeeks(), ""), 1);
        due("of blanks", pack(new PackWeeks(), "    "), 1 + 16 * 4);
        due("behind a line", pack(new PackWeeks(), "grid 2 2;pace"), 1 + 16 * 13);
        due("behind a line and blanks", pack(new PackWeeks(), "grid 2 2;pace  \n"), 1 + 16 * 16);
        due("of a full TAPE", pack(new PackWeeks(), packOf(999) + "x"), 1 + 16 * 999);
        due("of a TAPE that ends too soon", pack(new PackWeeks(), "grid 2 2;eat 1" + times(493, "+1")), 1 + 16 * 1000);
        due("signs left out have no place", pack(new PackWeeks(), "gr\tid\t 2 \u007f9;"), 4 + 16 * 7);
        due("weeks of a wrong sign", weeks(new PackWeeks(), "#"), 1);
        about = "FAULTS: of the first token from the left that is wrong the least";
        fault(4, "grid |9 9;thing");
        fault(4, "grid 3 |1;;");
        fault(1, "grid 3 |x 9");
        fault(5, G + times(6, "thing # hut at 0 0;") + "|thing a ship at 9 9;");
        fault(3, G + "eat 1;|eat day;");
        fault(3, G + "thing a hut at 0 0;gap |a opens 11 nips 0;");
        fault(2, G + "crew |a men 0 biscuit 0;");
        fault(4, G + "lead 0 0 round |0 from 5 for 5;");
        fault(4, G + "lead 0 0 round 4 from |4 for 5;");
        fault(4, G + "drift |9 ship 9 9");
        fault(1, G + "drift 0 |ship 9 9");
        fault(1, G + "eat ((((( |+ 1;");
        fault(1, G + "eat ((((( |# 1;");
        fault(1, G + "eat ((((( |12345 1;");
        fault(1, G + "eat not not not not not |");
        fault(5, G + "eat not not not not not |1 day;");
    }

    private static String both(int n, String open, String inner, String close) {
        return times(n, open) + inner + times(n, close);
    }

    private static void depth() {
        about = "No PART lies within 5 of not and ( )";
        for (String law : "eat look break".split(" ")) {
            for (int n = 0; n <= 4; n++) {
                right(G + law + " " + both(n, "(", "1", ")") + ";");
                right(G + law + " " + times(n, "not ") + "1;");
            }
            fault(5, G + law + " " + both(5, "(", "|1", ")") + ";");
            fault(5, G + law + " " + times(5, "(") + "|(1" + times(6, ")") + ";");
            fault(5, G + law + " " + times(5, "not ") + "|1;");
            fault(5, G + law + " " + times(5, "not ") + "|not 1;");
            fault(5, G + law + " " + times(5, "not ") + "|(1);");
        }
        String[] four = {"(not(not 1))", "not(not(1))", "((not not 1))", "not not((1))", "((((1))))"};
        for (String one : four) {
            right(G + "eat " + one + "+" + one + "*" + one + "<" + one + " or " + one + " and " + one + ";");
            int at = one.indexOf('1');
            fault(5, G + "eat 1 or(" + one.substring(0, at) + "|" + one.substring(at) + ");");
            fault(5, G + "eat not " + one.substring(0, at) + "|" + one.substring(at) + ";");
        }
        fault(5, G + "eat((((1+2)))+((((" + "|step" + ")))));");
        right(G + "eat((((1+2)))+(((step))));");
        fault(5, G + "eat((((1+2+(|3)))));");
        // on each of five levels four left sides wait for their right ones
        String wait = "0 or 1=2+3*";
        due("untrue on each level", eaten(wait + "(" + wait + "(" + wait + "(" + wait + "(1-1*5<7*2-1)))) or 0"), 0);
        due("sums and products that wait", eaten("1+2*(3+4*(1+2*(1+1*(1<2+1))))"), 1 + 2 * (3 + 4 * (1 + 2 * (1 + 1))));
        due("all that can wait", eaten("1 and 1<9+2*(1 and 1<9+2*(1 and 1<9+2*(1 and 1<9+2*(0 or 1<9+2*8))))"), 1);
        due("all that can wait, untrue within", eaten("1 and 3<2+2*(1 and 3<2+2*(1 and 3<2+2*(1 and 3<2+2*(1 and 3<2+2*0))))"), 0);
        about = "E: one < or = a TEST; a PART wherever one is due; facts of its own law alone";
        fault(1, G + "eat 1<2|<3;");
        fault(1, G + "eat 1=2|=3;");
        fault(1, G + "eat 1<2|=3;");
        right(G + "eat (1<2)<3 and 1=2 or 2<1;");
        for (String lone : "and or < = + - * )".split(" ")) {
            fault(1, G + "eat |" + lone + " 1;");
            fault(1, G + "eat 1 + |" + lone + " 1;");
            fault(1, G + "eat ( |" + lone + " 1 );");
            fault(1, G + "eat not |" + lone + " 1;");
        }
        for (String infix : "and or < = + - *".split(" ")) {
            right(G + "eat 1 " + infix + " 1;");
            fault(1, G + "eat 1 " + infix + " |;");
            fault(1, G + "eat 1 " + infix + " 1 |1;");
            fault(1, G + "eat 1 " + infix + " |" + infix + " 1;");
        }
        fault(1, G + "eat 1 |not 1;");
        fault(1, G + "eat ( |);");
        fault(1, G + "eat ( 1 |;");
        fault(1, G + "eat 1 |);");
        String[][] facts = {{"eat", "crewmen step out", "day men"}, {"look", "day", "crewmen step out"}, {"break", "step", "crewmen out day"}};
        for (String[] law : facts) {
            for (String fact : law[1].split(" ")) {
                right(G + law[0] + " " + fact + "*(not " + fact + ");");
            }
            for (String fact : law[2].split(" ")) {
                fault(1, G + law[0] + " |" + fact + ";");
                fault(1, G + law[0] + " (not |" + fact + ");");
            }
        }
        right(G + "eat 9999;look 0;break 0000;");
        fault(1, G + "eat |10000;");
    }

    /** What a crew of four men eats in the third step, its sledge out. */
    private static int eaten(String law) {
        PackWeeks x = of("grid 2 2;thing s ship at 0 0;crew s men 4 biscuit 9999;eat " + law + ";");
        x.drift(2);
        x.haul(0, 1, 1);
        int ahead = x.crew(0, 2);
        x.drift(1);
        return ahead - x.crew(0, 2);
    }

    private static void values() {
        about = "Of not, and, or, < and = comes 1 or 0; what is not 0 is so";
        due("and of numbers", eaten("7 and 9"), 1);
        due("and of 0", eaten("7 and 0"), 0);
        due("or of numbers", eaten("0 or 9"), 1);
        due("or of none", eaten("0 or 0"), 0);
        due("not of a number", eaten("not 9"), 0);
        due("not of 0", eaten("not 0"), 1);
        due("what is below 0 is so", eaten("(0-1)and(0-2)"), 1);
        due("not of what is below 0", eaten("not(0-1)"), 0);
        due("< of less", eaten("8<9"), 1);
        due("< of equal ones", eaten("9<9"), 0);
        due("< of more", eaten("9<8"), 0);
        due("= of equal ones", eaten("9=9"), 1);
        due("= of others", eaten("9=8"), 0);
        due("from the left", eaten("1 or 1 and 0"), 0);
        due("from the left", eaten("0 and 1 or 1"), 1);
        due("from the left", eaten("9-3-2"), 4);
        due("products first", eaten("2+3*4"), 14);
        due("not is closer than all", eaten("not 0+5"), 6);
        due("not is closer than all", eaten("not 0*5"), 5);
        due("its men", eaten("crewmen"), 4);
        due("steps that passed", eaten("step"), 2);
        due("its sledge is out", eaten("out*50"), 50);
        String[] untrue = {"7 and 0", "0 and 7", "0 or 0", "9<9", "9<8", "9=8", "not 9", "not(0-1)"};
        for (String one : untrue) {
            due("0 comes of " + one, eaten("(" + one + ")+5"), 5);
        }
        String[] so = {"7 and 9", "0 or 9", "9 or 0", "8<9", "9=9", "not 0", "(0-3)and(0-4)"};
        for (String one : so) {
            due("1 comes of " + one, eaten("(" + one + ")+5"), 6);
        }
        about = "ints wrap";
        due("the greatest int", eaten("4096*4096*128-1"), 99);
        due("one more is below 0", eaten("(4096*4096*128-1+1<0)*7"), 7);
        due("the least int", eaten("4096*4096*128"), 0);
        due("one less is above 0", eaten("(0<0-4096*4096*128-1)*7"), 7);
        due("a product of 2 to the 32", eaten("not(4096*4096*256)*7"), 7);
        due("a product of 2 to the 32, and 5", eaten("4096*4096*256+5"), 5);
        due("the least int times -1", eaten("(4096*4096*128*(0-1)<0)*7"), 7);
        due("< does not take away", eaten("(4096*4096*128<1)*7"), 7);
        about = "What each crew eats: the E of eat, 0 to 99";
        int[][] ends = {{0, 0}, {1, 1}, {98, 98}, {99, 99}, {100, 99}, {9999, 99}};
        for (int[] end : ends) {
            due("eat " + end[0], eaten("" + end[0]), end[1]);
        }
        due("below 0", eaten("0-1"), 0);
        due("far below 0", eaten("0-9999*9999"), 0);
        about = "Without eat: crewmen; without look: 1; without break: 1";
        PackWeeks x = of("grid 2 2;thing s ship at 0 0;crew s men 30 biscuit 100;load a worth 10 takes 1;");
        x.drift(1);
        due("eaten", x.crew(0, 2), 70);
        due("looks at 2 days", x.lost(2, 0), 1);
        due("looks at 30 days", x.lost(30, 0), 5);
        due("a load of one step", x.carry(0), 9000);
        PackWeeks y = of("grid 2 2;thing s ship at 0 0;crew s men 30 biscuit 100;load a worth 10 takes 1;eat 2;look 3;break 4;");
        pack(y, "grid 2 2;thing s ship at 0 0;crew s men 30 biscuit 100;load a worth 10 takes 1;");
        y.drift(1);
        due("eaten, in a new PACK without them", y.crew(0, 2), 70);
        due("looks", y.lost(2, 0), 1);
        due("a load", y.carry(0), 9000);
    }

    public static void main(String[] args) {
        tapeSigns();
        tapeFull();
        tapeTaken();
        words();
        numbers();
        otherSigns();
        blanks();
        grid();
        anyNumberOfLines();
        drifts();
        things();
        leads();
        crews();
        pace();
        gapsSignsLoads();
        full();
        weeksTold();
        names();
        faults();
        depth();
        values();
        finish();
    }
}
