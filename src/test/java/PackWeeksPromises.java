/** For each promise of the document, answers worked out by hand: ordinary inputs, edges, wrong inputs. */
public final class PackWeeksPromises extends Asking {
    /** Two ships in one row of a still grid, each with a crew. */
    private static final String SHIPS = "grid 8 8 ; thing fram ship at 0 0 ; thing hope ship at 2 0 ; "
            + "crew fram men 5 biscuit 40 ; crew hope men 3 biscuit 100 ; ";
    /** A current that goes round the rim of 3 by 3. */
    private static final String ROUND = "grid 3 3 ; drift 0 east 0 1 ; drift 0 south 2 2 ; drift 1 south 2 2 ; "
            + "drift 2 west 1 2 ; drift 2 north 0 0 ; drift 1 north 0 0 ; ";

    private static void newObject() {
        about = "promise 1";
        PackWeeks x = new PackWeeks();
        int[] counts = {2, 2, 0, 0, 0, 0, 0, 0, 0, 0, 0, 0, 0};
        for (int i = 0; i < counts.length; i++) {
            due("count(" + i + ")", x.count(i), counts[i]);
        }
        due("fits()", x.fits(), 0x303L);
        due("undo()", x.undo(), false);
        due("mark(0, true)", x.mark(0, true), false);
        due("flow(1, 1)", x.flow(1, 1), 4);
        due("NONE", PackWeeks.NONE, -1);
    }

    private static void feed() {
        about = "promise 2";
        PackWeeks x = new PackWeeks();
        due("feed of nothing", x.feed(0, 0, 0), 0);
        // 'a' 10 9 31 ' ' '~' 127 200: 9, 31, 127 and 200 are left out
        due("feed of odd signs", x.feed(0x610A091F207E7FC8L, 0, 0), 4);
        due("feed of bytes that are below 0", x.feed(-1L, MIN, -1L), 4);
        due("feed", x.feed(0x6161616161616161L, 0x6161616161616161L, 0x6161616161616161L), 28);
        for (int i = 0; i < 40; i++) {
            x.feed(0x6262626262626262L, 0x6262626262626262L, 0x6262626262626262L);
        }
        due("count(12)", x.count(12), 988);
        due("feed to the end", x.feed(0x6262626262626262L, 0x6262626262626262L, 0x6262626262626262L), 1000);
        due("feed beyond the end", x.feed(0x6262626262626262L, 0, 0), 1000);
        due("pack()", x.pack(), 1);
        due("count(12) when it was read", x.count(12), 0);
        // the highest byte of a comes first
        due("feed", x.feed(0x6772696420322032L, 0x3B00000000000000L, 0), 9);
        due("pack()", x.pack(), 0);
        due("feed in pieces", x.feed(0x67L, 0x72L, 0x69L), 3);
        due("feed in pieces", x.feed(0x64L, 0x36L, 0x20L), 6);
        due("feed in pieces", x.feed(0x35L, 0x3BL, 0), 8);
        due("pack()", x.pack(), 0);
        due("count(0)", x.count(0), 6);
        due("count(1)", x.count(1), 5);
    }

    private static void packTokens() {
        about = "promise 3, tokens";
        due("pack of nothing", pack(new PackWeeks(), ""), 1);
        due("pack of blanks", pack(new PackWeeks(), "  \n"), 1 + 16 * 3);
        due("no blanks", pack(new PackWeeks(), "grid8 2;drift1east0 7;eat(1+2)*3;"), 0);
        due("lines", pack(new PackWeeks(), "\n\ngrid\n2\n2\n;\n"), 0);
        due("zeros ahead", pack(new PackWeeks(), "grid 0003 3;"), 0);
        fault(1, "grid 2 2|");
        fault(1, "grid 2 2  |");
        fault(1, "grid |00002 2 ;");
        fault(1, "|Grid 2 2 ;");
        fault(1, "|grids 2 2 ;");
        fault(1, "|gridgridg 2 2 ;");
        fault(1, "grid 2 |-2 ;");
        fault(1, "grid 2 |; ;");
        fault(1, "grid 2 2 |, thing");
        fault(1, "grid 2 2 ; |;");
        fault(1, "grid 2 2 ; |2 ;");
        fault(1, "grid 2 2 ; |haul");
        fault(1, "grid 2 2 ; thing |abcdefghi ship at 0 0 ;");
        due("a NAME of 8", pack(new PackWeeks(), "grid 2 2 ; thing abcdefgh ship at 0 0 ;"), 0);
        due("NAMES that are facts", pack(new PackWeeks(),
                "grid 2 2 ; thing step ship at 0 0 ; thing out hut at 1 1 ; gap day opens 1 nips 1 ; sign crewmen often 1 ;"), 0);
        for (String kept : ("grid drift thing at lead round from for crew men biscuit pace gap opens nips sign often load worth "
                + "takes eat look break haul lend home north east south west still ship hut bear cairn not and or").split(" ")) {
            fault(1, "grid 2 2 ; sign |" + kept + " often 1 ;");
        }
    }

    private static void packLines() {
        about = "promise 3, lines";
        fault(1, "|drift 0 east 0 0 ;");
        fault(4, "grid |1 2 ;");
        fault(4, "grid |9 2 ;");
        fault(4, "grid 2 |1 ;");
        fault(4, "grid 8 |9 ;");
        fault(1, "grid 3 3 ; |grid 3 3 ;");
        String g = "grid 3 4 ; ";
        fault(4, g + "drift |4 east 0 0 ;");
        fault(1, g + "drift 3 |ship 0 0 ;");
        fault(4, g + "drift 3 west |3 0 ;");
        fault(4, g + "drift 3 west 2 |1 ;");
        fault(4, g + "drift 3 west 2 |3 ;");
        fault(1, g + "drift 3 west 2 2 |drift");
        fault(1, g + "thing a |east at 0 0 ;");
        fault(1, g + "thing a hut |0 0 ;");
        fault(4, g + "thing a hut at |3 0 ;");
        fault(4, g + "thing a hut at 0 |4 ;");
        fault(3, g + "thing a hut at 0 0 ; thing |a hut at 0 0 ;");
        fault(3, g + "load a worth 1 takes 1 ; thing |a hut at 0 0 ;");
        fault(5, g + times(6, "thing # hut at 0 0 ; ") + "|thing g hut at 0 0 ;");
        fault(4, g + "lead |3 0 round 1 from 0 for 0 ;");
        fault(4, g + "lead 2 |4 round 1 from 0 for 0 ;");
        fault(4, g + "lead 2 3 round |0 from 0 for 0 ;");
        fault(4, g + "lead 2 3 round |31 from 0 for 0 ;");
        fault(4, g + "lead 2 3 round 1 from |1 for 0 ;");
        fault(4, g + "lead 2 3 round 1 from 0 for |2 ;");
        fault(3, g + "lead 2 3 round 1 from 0 for 1 ; lead 2 |3 round 1 from 0 for 0 ;");
        fault(1, g + "lead 2 3 round 1 from 0 for 1 ; lead 2 |round");
        due("leads side by side", pack(new PackWeeks(), g + "lead 2 3 round 1 from 0 for 1 ; lead 2 2 round 30 from 29 for 30 ; lead 1 3 round 1 from 0 for 0 ;"), 0);
        fault(5, g + "lead 0 0 round 1 from 0 for 1;lead 0 1 round 1 from 0 for 1;lead 0 2 round 1 from 0 for 1;"
                + "lead 1 0 round 1 from 0 for 1;lead 1 1 round 1 from 0 for 1;lead 1 2 round 1 from 0 for 1;|lead 0 0");
        String s = g + "thing s ship at 0 0 ; thing t ship at 0 0 ; thing u ship at 0 0 ; thing h hut at 1 1 ; gap q opens 0 nips 0 ; ";
        fault(2, s + "crew |h men 1 biscuit 0 ;");
        fault(2, s + "crew |q men 1 biscuit 0 ;");
        fault(2, s + "crew |zz men 1 biscuit 0 ;");
        fault(1, s + "crew |men men 1 biscuit 0 ;");
        fault(3, s + "crew s men 1 biscuit 0 ; crew |s men 1 biscuit 0 ;");
        fault(4, s + "crew s men |0 biscuit 0 ;");
        fault(4, s + "crew s men |31 biscuit 0 ;");
        fault(5, s + "crew s men 30 biscuit 9999 ; crew t men 1 biscuit 0 ; |crew u men 1 biscuit 0 ;");
        fault(4, g + "pace |0 ;");
        fault(4, g + "pace |5 ;");
        fault(3, g + "pace 4 ; |pace 4 ;");
        fault(3, s + "gap |s opens 0 nips 0 ;");
        fault(4, g + "gap a opens |11 nips 0 ;");
        fault(4, g + "gap a opens 10 nips |11 ;");
        fault(5, g + times(5, "gap # opens 10 nips 10 ; ") + "|gap f opens 1 nips 1 ;");
        fault(4, g + "sign a often |0 ;");
        fault(4, g + "sign a often |100 ;");
        fault(5, g + times(6, "sign # often 99 ; ") + "|sign g often 1 ;");
        fault(4, g + "load a worth |1000 takes 1 ;");
        fault(4, g + "load a worth 999 takes |0 ;");
        fault(4, g + "load a worth 0 takes |10 ;");
        fault(3, g + "sign a often 1 ; load |a worth 0 takes 1 ;");
        fault(5, g + times(6, "load # worth 1 takes 9 ; ") + "|load g worth 1 takes 1 ;");
    }

    private static void packLaws() {
        about = "promise 3, laws";
        String g = "grid 2 2 ; ";
        fault(1, g + "eat |;");
        fault(1, g + "eat |day ;");
        fault(1, g + "look |step ;");
        fault(1, g + "break |out ;");
        fault(1, g + "break |crewmen ;");
        fault(1, g + "eat |- 1 ;");
        fault(1, g + "eat 1 |2 ;");
        fault(1, g + "eat 1 + |;");
        fault(1, g + "eat 1 < 2 |= 3 ;");
        fault(1, g + "eat ( 1 < 2 |< 3 ) ;");
        fault(1, g + "eat ( 1 |;");
        fault(1, g + "eat 1 |) ;");
        fault(1, g + "eat not |and 1 ;");
        fault(1, g + "eat |12345 ;");
        fault(1, g + "eat 1 |");
        fault(3, g + "eat 1 ; |eat 1 ;");
        fault(3, g + "look 1 ; |look 1 ;");
        fault(3, g + "break 1 ; |break 1 ;");
        fault(5, g + "eat ((((( |1 ))))) ;");
        fault(5, g + "eat ((((( |( 1 )))))) ;");
        fault(5, g + "eat not ( not ( not |not 1 ) ) ;");
        fault(5, g + "eat 1 + ( not ( not ( |step ) ) ) ;");
        fault(1, g + "eat ((((( |) ;");
        fault(1, g + "eat ((((( |day ;");
        due("within 4", pack(new PackWeeks(), g + "eat not ( not ( 1 ) ) + (((( 2 )))) ; look day < 3 and not day = 2 ; break step * step - 1 ;"), 0);
    }

    private static void packStays() {
        about = "promise 3, a full TAPE";
        String sum = "grid 2 2;thing s ship at 0 0;crew s men 1 biscuit 99;eat 1";
        StringBuilder full = new StringBuilder(sum);
        while (full.length() < 998) {
            full.append("+0");
        }
        full.append(' ');
        due("length", full.length(), 999);
        due("pack of 1000 signs", pack(new PackWeeks(), full + ";"), 0);
        due("pack of 1000 signs and one left out", pack(new PackWeeks(), full + " ;"), 1 + 16 * 1000);
        about = "promise 3, state";
        PackWeeks x = of(SHIPS + "gap g opens 1 nips 1 ;");
        x.drift(2);
        x.see(0, 0, 3);
        x.mark(2, false);
        weeks(x, "drift 1 ;");
        due("a faulty pack", pack(x, "grid 3 3 ; thing a hut at 0 0 ; rest"), 1 + 16 * 32);
        int[] kept = {8, 8, 2, 0, 2, 2, 1, 0, 0, 1, 1, 1, 0};
        for (int i = 0; i < kept.length; i++) {
            due("count(" + i + ") behind a FAULT", x.count(i), kept[i]);
        }
        due("pack", pack(x, "grid 3 4 ; thing a hut at 2 1 ;"), 0);
        int[] fresh = {3, 4, 1, 0, 0, 0, 0, 0, 0, 0, 0, 0, 0};
        for (int i = 0; i < fresh.length; i++) {
            due("count(" + i + ") of the new pack", x.count(i), fresh[i]);
        }
        due("mark(2, true)", x.mark(2, true), false);
        due("undo()", x.undo(), false);
        due("thing(0, 1)", x.thing(0, 1), 2);
    }

    private static void weeksRead() {
        about = "promise 4";
        PackWeeks x = of("grid 4 3 ; thing s ship at 0 0 ; thing t ship at 1 0 ; thing h hut at 1 1 ; crew s men 1 biscuit 5 ;");
        due("weeks of nothing", weeks(x, ""), 0);
        due("weeks", weeks(x, "drift 30 ; haul s 3 2 ; lend s 999 ; home s ;"), 0);
        due("count(9)", x.count(9), 4);
        weekFault(x, 4, "drift |0 ;");
        weekFault(x, 4, "drift |31 ;");
        weekFault(x, 1, "drift |s ;");
        weekFault(x, 2, "haul |t 0 0 ;");
        weekFault(x, 2, "haul |h 0 0 ;");
        weekFault(x, 2, "lend |zz 1 ;");
        weekFault(x, 2, "home |zz ;");
        weekFault(x, 1, "home |drift ;");
        weekFault(x, 4, "haul s |4 0 ;");
        weekFault(x, 4, "haul s 3 |3 ;");
        weekFault(x, 4, "lend s |0 ;");
        weekFault(x, 4, "lend s |1000 ;");
        weekFault(x, 1, "home s |");
        weekFault(x, 1, "|grid 2 2 ;");
        weekFault(x, 1, times(24, "drift 1 ; ") + "|rest ;");
        weekFault(x, 5, times(24, "home s ; ") + "|lend zz ;");
        due("count(9) behind FAULTS", x.count(9), 4);
        due("24 lines", weeks(x, times(24, "drift 30 ; ")), 0);
        due("count(9)", x.count(9), 24);
        due("judged(1)", x.judged(1), 720);
        due("weeks of nothing", weeks(x, " "), 0);
        due("count(9)", x.count(9), 0);
        due("count(12)", x.count(12), 0);
    }

    private static void flow() {
        about = "promise 5";
        PackWeeks x = of("grid 4 5 ; drift 1 north 0 3 ; drift 1 east 1 2 ; drift 4 south 0 0 ; drift 4 west 3 3 ; drift 1 still 2 2 ;");
        int[] row = {0, 1, 4, 0};
        for (int i = 0; i < 4; i++) {
            due("flow(" + i + ", 1)", x.flow(i, 1), row[i]);
        }
        due("flow(0, 4)", x.flow(0, 4), 2);
        due("flow(3, 4)", x.flow(3, 4), 3);
        due("flow(1, 4)", x.flow(1, 4), 4);
        due("flow(4, 0)", x.flow(4, 0), -1);
        due("flow(0, 5)", x.flow(0, 5), -1);
        due("flow(-1, 0)", x.flow(-1, 0), -1);
        due("flow(MIN, MAX)", x.flow(MIN, MAX), -1);
    }

    private static void open() {
        about = "promise 6";
        PackWeeks x = of("grid 3 3 ; lead 1 2 round 4 from 3 for 2 ; lead 0 0 round 5 from 0 for 5 ; lead 2 2 round 5 from 2 for 0 ;");
        int[] turns = {1, 0, 0, 1, 1, 0, 0, 1};
        for (int t = 0; t < turns.length; t++) {
            due("open(1, 2, " + t + ")", x.open(1, 2, t), turns[t]);
        }
        due("open(0, 0, 200)", x.open(0, 0, 200), 1);
        due("open(0, 0, 201)", x.open(0, 0, 201), -1);
        due("open(0, 0, -1)", x.open(0, 0, -1), -1);
        due("open(2, 2, 2)", x.open(2, 2, 2), 0);
        due("open(1, 1, 0)", x.open(1, 1, 0), 0);
        due("open(3, 0, 0)", x.open(3, 0, 0), -1);
        x.drift(2);
        due("open(1, 2, 0) two steps on", x.open(1, 2, 0), 0);
        due("open(1, 2, 1) two steps on", x.open(1, 2, 1), 1);
    }

    private static void thing() {
        about = "promise 7";
        PackWeeks x = of("grid 4 3 ; drift 2 east 0 3 ; thing c cairn at 3 2 ; thing b bear at 1 2 ; thing s ship at 0 1 ; thing h hut at 0 0 ; crew s men 2 biscuit 3 ;");
        int[][] all = {{3, 3, 2, -1}, {2, 1, 2, -1}, {0, 0, 1, 0}, {1, 0, 0, -1}};
        for (int i = 0; i < 4; i++) {
            for (int what = 0; what < 4; what++) {
                due("thing(" + i + ", " + what + ")", x.thing(i, what), all[i][what]);
            }
        }
        x.drift(1);
        due("thing(1, 1) a step on", x.thing(1, 1), 2);
        due("thing(0, 1) at the grid's end", x.thing(0, 1), 3);
        dueThrow("thing(4, 0)", () -> x.thing(4, 0));
        dueThrow("thing(-1, 0)", () -> x.thing(-1, 0));
        dueThrow("thing(0, 4)", () -> x.thing(0, 4));
        dueThrow("thing(0, -1)", () -> x.thing(0, -1));
        dueThrow("thing(MAX, MIN)", () -> x.thing(MAX, MIN));
    }

    private static void crew() {
        about = "promise 8";
        PackWeeks x = of("grid 4 3 ; thing a hut at 0 0 ; thing s ship at 1 1 ; thing t ship at 2 1 ; crew t men 30 biscuit 9999 ; crew s men 7 biscuit 0 ;");
        int[][] all = {{2, 30, 9999, 0, 0, 2, 1, 0}, {1, 7, 0, 0, 0, 1, 1, 0}};
        for (int i = 0; i < 2; i++) {
            for (int what = 0; what < 8; what++) {
                due("crew(" + i + ", " + what + ")", x.crew(i, what), all[i][what]);
            }
        }
        due("haul(0, 1, 1)", x.haul(0, 1, 1), true);
        due("lend(0, 999)", x.lend(0, 999), 999);
        int[][] then = {{2, 30, 9000, 999, 1, 1, 1, 1}, {1, 7, 999, -999, 0, 1, 1, 0}};
        for (int i = 0; i < 2; i++) {
            for (int what = 0; what < 8; what++) {
                due("crew(" + i + ", " + what + ") then", x.crew(i, what), then[i][what]);
            }
        }
        dueThrow("crew(2, 0)", () -> x.crew(2, 0));
        dueThrow("crew(-1, 0)", () -> x.crew(-1, 0));
        dueThrow("crew(0, 8)", () -> x.crew(0, 8));
        dueThrow("crew(0, -1)", () -> x.crew(0, -1));
        dueThrow("crew(0, 0) of none", () -> new PackWeeks().crew(0, 0));
    }

    private static void drift() {
        about = "promise 9";
        PackWeeks x = of(ROUND + "thing s ship at 0 0 ; thing h hut at 1 1 ; crew s men 4 biscuit 30 ; eat crewmen + step * 2 + out * 100 ;");
        due("drift(0)", x.drift(0), -1);
        due("drift(31)", x.drift(31), -1);
        due("drift(-1)", x.drift(-1), -1);
        due("count(11)", x.count(11), 0);
        due("drift(1)", x.drift(1), 1);
        due("biscuit: 4 eaten", x.crew(0, 2), 26);
        due("drift(2)", x.drift(2), 3);
        due("biscuit: 6 and 8 more", x.crew(0, 2), 12);
        due("over, three steps round", x.thing(0, 1), 2);
        due("down, three steps round", x.thing(0, 2), 1);
        due("the middle stays", x.thing(1, 1), 1);
        due("haul(0, 2, 0)", x.haul(0, 2, 0), true);
        due("drift(1), 99 eaten at most", x.drift(1), 4);
        due("biscuit: 0 at least", x.crew(0, 2), 0);
        due("the sledge drifts, too", x.crew(0, 6), 1);
        due("crew(0, 7)", x.crew(0, 7), 0);
        due("drift(30)", x.drift(30), 34);
        due("count(5)", x.count(5), 34);
        PackWeeks y = of("grid 2 2 ; drift 0 north 0 1 ; drift 1 south 0 1 ; thing s ship at 0 0 ; thing t ship at 1 1 ; "
                + "crew s men 1 biscuit 50 ; crew t men 1 biscuit 5 ; eat 0 - 7 ;");
        y.drift(9);
        due("eats 0 at least", y.crew(0, 2), 50);
        due("none goes off the grid", y.thing(0, 2), 0);
        due("none goes off the grid", y.thing(1, 2), 1);
        PackWeeks z = of("grid 2 2 ; thing s ship at 0 0 ; crew s men 1 biscuit 500 ; eat 5 * 9999 ;");
        z.drift(1);
        due("eats 99 at most", z.crew(0, 2), 401);
    }

    private static void laws() {
        about = "terms, E";
        String[][] all = {{"1 + 2 * 3", "7"}, {"( 1 + 2 ) * 3", "9"}, {"9 - 2 - 3", "4"}, {"not 0", "1"}, {"not 7 + 5", "5"},
            {"not not 7", "1"}, {"1 or 1 and 0", "0"}, {"0 and 0 or 1", "1"}, {"3 < 4", "1"}, {"4 < 4", "0"}, {"4 = 2 + 2", "1"},
            {"5 and 7", "1"}, {"0 or 7", "1"}, {"2 + 1 < 4 and 6", "1"}, {"2 * ( 3 < 4 ) + 1", "3"}, {"crewmen * 3", "12"},
            {"step + 6", "6"}, {"out", "0"}, {"9999 * 9999 * 9999 < 0", "1"}, {"0 - 1 < 0", "1"}, {"not ( 1 = 1 )", "0"}};
        for (String[] one : all) {
            PackWeeks x = of("grid 2 2 ; thing s ship at 0 0 ; crew s men 4 biscuit 50 ; eat " + one[0] + " ;");
            x.drift(1);
            due("eaten by " + one[0], 50 - x.crew(0, 2), Integer.parseInt(one[1]));
        }
    }

    private static void haul() {
        about = "promise 10";
        PackWeeks x = of(SHIPS + "lead 1 0 round 2 from 0 for 1 ; lead 0 2 round 1 from 0 for 1 ;");
        due("haul to where it stands", x.haul(0, 0, 0), false);
        due("haul to an OPEN lead", x.haul(0, 1, 0), false);
        due("haul through an OPEN lead", x.haul(0, 2, 0), false);
        due("haul two down to an OPEN lead", x.haul(0, 0, 2), false);
        due("haul three", x.haul(0, 1, 2), false);
        due("haul off the grid", x.haul(0, -1, 0), false);
        due("haul off the grid", x.haul(0, 0, 8), false);
        due("haul of no crew", x.haul(2, 0, 1), false);
        due("haul of no crew", x.haul(-1, 0, 1), false);
        due("count(11)", x.count(11), 0);
        due("haul two", x.haul(0, 1, 1), true);
        due("out", x.crew(0, 4), 1);
        due("once a step", x.haul(0, 0, 1), false);
        due("the other crew", x.haul(1, 4, 0), true);
        x.drift(1);
        due("the lead is shut now", x.haul(0, 1, 0), true);
        due("the ship stays", x.thing(0, 1), 0);
        x.drift(1);
        due("it stands on an OPEN lead", x.open(1, 0, 0), 1);
        due("haul from an OPEN lead", x.haul(0, 1, 2), true);
        due("down", x.crew(0, 6), 2);
        due("count(11)", x.count(11), 6);
        PackWeeks y = of("grid 8 8 ; pace 4 ; thing s ship at 0 0 ; crew s men 1 biscuit 1 ; lead 1 0 round 1 from 0 for 1 ; lead 1 1 round 1 from 0 for 1 ;");
        due("four, but six round the leads", y.haul(0, 2, 0), false);
        due("four round the leads", y.haul(0, 2, 2), true);
        PackWeeks z = of("grid 8 8 ; pace 1 ; thing s ship at 7 0 ; crew s men 1 biscuit 1 ;");
        due("no way over the rim", z.haul(0, 0, 1), false);
        due("pace 1", z.haul(0, 6, 1), false);
        due("pace 1", z.haul(0, 7, 1), true);
        z.drift(1);
        due("to its ship", z.haul(0, 7, 0), true);
        due("home", z.home(0), true);
        due("still hauled in this step", z.crew(0, 7), 1);
        due("once a step, though it is in", z.haul(0, 7, 1), false);
        z.drift(1);
        due("again", z.haul(0, 7, 1), true);
    }

    private static void lend() {
        about = "promise 11";
        PackWeeks x = of(SHIPS);
        due("lend, the sledge is in", x.lend(0, 1), -1);
        x.haul(0, 1, 0);
        due("lend, not there", x.lend(0, 1), -1);
        x.drift(1);
        x.haul(0, 2, 0);
        due("lend(0, 0)", x.lend(0, 0), -1);
        due("lend(0, 1000)", x.lend(0, 1000), -1);
        due("lend(2, 1)", x.lend(2, 1), -1);
        due("lend(-1, 1)", x.lend(-1, 1), -1);
        due("lend(0, 30)", x.lend(0, 30), 30);
        due("lend(0, 999), no more than it has", x.lend(0, 999), 5);
        due("lend(0, 1), it has none", x.lend(0, 1), -1);
        due("biscuit", x.crew(0, 2), 0);
        due("biscuit of the other", x.crew(1, 2), 97 + 35);
        due("owed", x.crew(0, 3), 35);
        due("owes", x.crew(1, 3), -35);
        due("lend back, the other sledge is in", x.lend(1, 5), -1);
        x.haul(1, 0, 0);
        due("lend back", x.lend(1, 50), 50);
        due("owes more than it is owed", x.crew(0, 3), -15);
        PackWeeks y = of("grid 2 2 ; thing s ship at 0 0 ; thing t ship at 1 0 ; crew s men 1 biscuit 9 ;");
        y.haul(0, 1, 0);
        due("lend without another crew", y.lend(0, 1), -1);
    }

    private static void home() {
        about = "promise 12";
        PackWeeks x = of("grid 4 2 ; drift 0 east 0 3 ; thing s ship at 0 0 ; crew s men 1 biscuit 9 ;");
        due("home, it is in", x.home(0), false);
        due("home(1)", x.home(1), false);
        due("home(-1)", x.home(-1), false);
        x.haul(0, 1, 1);
        due("home, not there", x.home(0), false);
        x.drift(1);
        due("home, the ship came over it, but a row off", x.home(0), false);
        x.haul(0, 1, 0);
        due("home", x.home(0), true);
        due("in", x.crew(0, 4), 0);
        due("home again", x.home(0), false);
        x.drift(1);
        due("in, it goes with its ship", x.crew(0, 5), 2);
        due("count(11)", x.count(11), 5);
    }

    private static void undo() {
        about = "promise 13";
        PackWeeks x = of(SHIPS);
        due("undo of nothing", x.undo(), false);
        x.haul(0, 2, 0);
        x.lend(0, 7);
        x.lend(0, 3);
        x.drift(5);
        due("undo the drift", x.undo(), true);
        due("steps", x.count(5), 0);
        due("biscuit", x.crew(0, 2), 30);
        due("hauled", x.crew(0, 7), 1);
        due("undo one", x.undo(), true);
        due("owed", x.crew(0, 3), 7);
        due("undo two", x.undo(), true);
        due("undo three", x.undo(), true);
        due("in", x.crew(0, 4), 0);
        due("undo four", x.undo(), false);
        for (int i = 0; i < 20; i++) {
            x.drift(1);
        }
        due("count(11)", x.count(11), 16);
        x.see(0, 0, 3);
        for (int i = 0; i < 16; i++) {
            due("undo", x.undo(), true);
        }
        due("undo the 17th", x.undo(), false);
        due("steps", x.count(5), 4);
        due("what is SEEN stays", x.count(10), 1);
    }

    private static void judged() {
        about = "promise 14";
        PackWeeks x = of(SHIPS + "lead 1 1 round 3 from 0 for 1 ;");
        due("judged(0) without lines", x.judged(0), -1);
        due("judged(1) without lines", x.judged(1), 0);
        due("judged(2) without lines", x.judged(2), 140);
        due("weeks", weeks(x, "haul fram 2 0 ; lend fram 10 ; drift 3 ; haul fram 0 0 ; home fram ; drift 1 ;"), 0);
        x.drift(20);
        due("judged(0)", x.judged(0), -1);
        due("judged(1)", x.judged(1), 4);
        due("judged(2): four times eight eaten", x.judged(2), 108);
        due("all is as ahead", x.count(5), 20);
        due("weeks", weeks(x, "drift 1 ; home fram ; lend fram 1 ; haul fram 1 0 ; haul fram 0 0 ; drift 2 ;"), 0);
        due("judged(0)", x.judged(0), 1);
        due("judged(1)", x.judged(1), 3);
        due("judged(2)", x.judged(2), 116);
        due("judged(-1)", x.judged(-1), -2);
        due("judged(3)", x.judged(3), -2);
        due("weeks to an OPEN lead", weeks(x, "haul fram 1 1 ;"), 0);
        due("judged(0)", x.judged(0), 0);
        due("weeks to a shut lead", weeks(x, "drift 1 ; haul fram 1 1 ;"), 0);
        due("judged(0)", x.judged(0), -1);
    }

    private static void where() {
        about = "promise 15";
        PackWeeks x = of(ROUND + "thing s ship at 0 0 ; thing h hut at 1 1 ;");
        int[] round = {0, 1, 2, 10, 18, 17, 16, 8, 0};
        for (int k = 0; k < round.length; k++) {
            due("where(0, " + k + ")", x.where(0, k), round[k]);
        }
        due("where(0, 200)", x.where(0, 200), 0);
        due("where(1, 200)", x.where(1, 200), 9);
        x.drift(3);
        due("where(0, 0) three steps on", x.where(0, 0), 10);
        due("where(0, 199) three steps on", x.where(0, 199), 2);
        due("where(0, 201)", x.where(0, 201), -1);
        due("where(0, -1)", x.where(0, -1), -1);
        due("where(2, 0)", x.where(2, 0), -1);
        due("where(-1, 0)", x.where(-1, 0), -1);
    }

    private static void meet() {
        about = "promise 16";
        PackWeeks x = of("grid 8 2 ; drift 0 east 0 7 ; thing a ship at 0 0 ; thing b hut at 5 0 ; thing c bear at 0 0 ; thing d cairn at 3 1 ;");
        due("meet(0, 1), at the rim", x.meet(0, 1), 7);
        due("meet(1, 0)", x.meet(1, 0), 7);
        due("meet(0, 2)", x.meet(0, 2), 0);
        due("meet(0, 3)", x.meet(0, 3), -1);
        due("meet(0, 0)", x.meet(0, 0), -1);
        due("meet(0, 4)", x.meet(0, 4), -1);
        due("meet(-1, 0)", x.meet(-1, 0), -1);
        x.drift(4);
        due("meet(0, 1) four steps on", x.meet(0, 1), 3);
        PackWeeks y = of(ROUND + "thing a ship at 0 0 ; thing b ship at 1 0 ;");
        due("round and round, never", y.meet(0, 1), -1);
    }

    private static void reach() {
        about = "promise 17";
        PackWeeks x = of("grid 8 2 ; thing a ship at 0 0 ; thing b hut at 7 0 ; thing c cairn at 0 0 ; thing d cairn at 2 0 ;");
        due("reach(0, 1, 0): 2, 4, 6 and 7", x.reach(0, 1, 0), 3);
        due("reach(0, 1, 5)", x.reach(0, 1, 5), 8);
        due("reach(0, 2, 60), at once", x.reach(0, 2, 60), 60);
        due("reach(0, 3, 0), hauled", x.reach(0, 3, 0), 0);
        due("reach(0, 0, 0)", x.reach(0, 0, 0), -1);
        due("reach(0, 4, 0)", x.reach(0, 4, 0), -1);
        due("reach(-1, 0, 0)", x.reach(-1, 0, 0), -1);
        due("reach(0, 1, 61)", x.reach(0, 1, 61), -1);
        due("reach(0, 1, -1)", x.reach(0, 1, -1), -1);
        // a wall of leads, one of which is shut in steps 29, 59, ..
        PackWeeks y = of("grid 3 2 ; thing a ship at 0 0 ; thing b hut at 2 0 ; lead 1 0 round 30 from 0 for 29 ; lead 1 1 round 1 from 0 for 1 ;");
        due("reach through a lead", y.reach(0, 1, 0), 29);
        due("reach through a lead", y.reach(0, 1, 30), 59);
        y.drift(30);
        due("reach through a lead later", y.reach(0, 1, 1), 29);
        PackWeeks z = of("grid 3 2 ; thing a ship at 0 0 ; thing b hut at 2 0 ; lead 1 0 round 1 from 0 for 1 ; lead 1 1 round 1 from 0 for 1 ;");
        due("reach through a wall", z.reach(0, 1, 0), -1);
        // the sledge drifts over the open lead
        PackWeeks w = of("grid 3 2 ; pace 1 ; drift 0 east 0 2 ; thing a ship at 0 0 ; thing b hut at 2 1 ; lead 1 0 round 1 from 0 for 1 ; lead 1 1 round 1 from 0 for 1 ;");
        due("drifts onto the lead, is hauled off it", w.reach(0, 1, 0), 2);
        // two leads that must be shut at once, since the flow brings back who waits between them: first in step 120
        String wall = "grid 3 2 ; drift 0 west 1 1 ; thing a ship at 0 0 ; thing b hut at 2 0 ; lead 1 1 round 1 from 0 for 1 ; ";
        due("reach in step 120", of(wall + "lead 1 0 round 30 from 1 for 29 ; lead 2 0 round 7 from 2 for 6 ;").reach(0, 1, 0), 120);
        PackWeeks later = of(wall + "lead 1 0 round 30 from 2 for 29 ; lead 2 0 round 7 from 3 for 6 ;");
        due("reach in step 121", later.reach(0, 1, 0), -1);
        due("setout for step 121", later.setout(0, 1), -1);
        later.drift(1);
        due("reach in step 120 from then", later.reach(0, 1, 60), 120);
        due("setout for step 120", later.setout(0, 1), 60);
        // the hut lies on a lead that is shut in steps 0, 30, 60, ..
        PackWeeks v = of("grid 2 2 ; thing a ship at 0 0 ; thing b hut at 1 0 ; lead 1 0 round 30 from 1 for 29 ;");
        due("reach(0, 1, 60)", v.reach(0, 1, 60), 60);
        v.drift(30);
        due("reach(0, 1, 0)", v.reach(0, 1, 0), 0);
        v.drift(1);
        due("reach(0, 1, 0)", v.reach(0, 1, 0), 29);
    }

    private static void setout() {
        about = "promise 18";
        PackWeeks x = of("grid 8 2 ; thing a ship at 0 0 ; thing b hut at 7 0 ; thing c hut at 6 0 ;");
        due("setout(0, 1)", x.setout(0, 1), 0);
        PackWeeks y = of("grid 3 2 ; thing a ship at 0 0 ; thing b hut at 2 0 ; lead 1 0 round 30 from 0 for 29 ; lead 1 1 round 1 from 0 for 1 ;");
        due("setout, waiting for the lead", y.setout(0, 1), 29);
        due("setout(0, 0)", y.setout(0, 0), -1);
        due("setout(0, 2)", y.setout(0, 2), -1);
        due("setout(-1, 0)", y.setout(-1, 0), -1);
        PackWeeks z = of("grid 3 2 ; thing a ship at 0 0 ; thing b hut at 2 0 ; lead 1 0 round 1 from 0 for 1 ; lead 1 1 round 1 from 0 for 1 ;");
        due("setout, never there", z.setout(0, 1), -1);
        // hauled one and drifted one a step, while the rim holds the hut
        PackWeeks w = of("grid 8 2 ; pace 1 ; drift 0 east 0 7 ; thing a ship at 0 0 ; thing b hut at 7 0 ;");
        due("reach by drift and haul", w.reach(0, 1, 0), 3);
        due("setout", w.setout(0, 1), 0);
    }

    private static void see() {
        about = "promise 19";
        PackWeeks x = of("grid 3 3 ; thing a ship at 1 1 ;");
        due("see(1, 0, 0)", x.see(1, 0, 0), false);
        due("see(-1, 0, 0)", x.see(-1, 0, 0), false);
        due("see(0, 41, 0)", x.see(0, 41, 0), false);
        due("see(0, -1, 0)", x.see(0, -1, 0), false);
        due("see(0, 0, 9)", x.see(0, 0, 9), false);
        due("see(0, 0, -1)", x.see(0, 0, -1), false);
        due("count(10)", x.count(10), 0);
        for (int i = 0; i < 8; i++) {
            due("see(0, 40, 8)", x.see(0, 40, 8), true);
        }
        due("see a ninth", x.see(0, 40, 8), false);
        due("count(10)", x.count(10), 8);
        due("fits()", x.fits(), 1);
    }

    private static void fits() {
        about = "promise 20";
        // the ship is at 2 2, place 18; rows are 8 bits apart
        long[] rose = {1L << 18, 1L << 2 | 1L << 10, 3L << 3 | 3L << 11, 3L << 19, 3L << 27 | 3L << 35,
            1L << 26 | 1L << 34, 3L << 24 | 3L << 32, 3L << 16, 3L | 3L << 8};
        for (int bearing = 0; bearing < 9; bearing++) {
            PackWeeks x = of("grid 5 5 ; thing a ship at 2 2 ;");
            x.see(0, 0, bearing);
            due("fits() of bearing " + bearing, x.fits(), rose[bearing]);
        }
        PackWeeks x = of("grid 4 2 ; drift 0 east 0 3 ; thing a ship at 0 1 ; thing b ship at 0 0 ;");
        due("fits() of nothing SEEN", x.fits(), 0xF0FL);
        due("see(0, 2, 2)", x.see(0, 2, 2), true);
        due("fits(), all of the upper row are there then", x.fits(), 0xFL);
        due("see(1, 0, 3)", x.see(1, 0, 3), true);
        due("fits()", x.fits(), 0xEL);
        due("see(1, 2, 0): at 2 then", x.see(1, 2, 0), true);
        due("fits() of none", x.fits(), 0);
        PackWeeks y = of("grid 4 2 ; drift 0 east 0 3 ; thing a ship at 3 1 ;");
        y.see(0, 1, 8);
        due("fits(): not yet at 3 then", y.fits(), 3L);
        y.drift(1);
        due("fits() at the step of the sight: nothing tells where it was ahead of it", y.fits(), 7L);
        y.drift(1);
        due("fits() a step behind the sight", y.fits(), 14L);
        y.drift(5);
        due("fits() at the rim", y.fits(), 8L);
        y.see(0, 0, 1);
        due("fits() of an older and a newer sight", y.fits(), 8L);
        y.undo();
        due("fits() when the drift is undone", y.fits(), 14L);
        y.undo();
        y.undo();
        due("fits() ahead of both sights", y.fits(), 3L);
        PackWeeks w = of("grid 4 2 ; drift 0 east 0 3 ;");
        w.drift(1);
        due("fits() of nothing SEEN, though nothing drifts to 0 0", w.fits(), 0xF0FL);
        w.drift(30);
        due("fits() of nothing SEEN", w.fits(), 0xF0FL);
        // 0 0 and 1 1 both drift to 1 0: each sight alone lets it be there, both together do not
        PackWeeks v = of("grid 2 2 ; drift 0 east 0 0 ; drift 1 north 1 1 ; thing a cairn at 0 1 ;");
        v.see(0, 0, 1);
        due("fits() of the one", v.fits(), 1L);
        v.see(0, 0, 3);
        due("fits() of two that can't both be", v.fits(), 0L);
        v.drift(1);
        due("fits() of two that could not both be", v.fits(), 0L);
        PackWeeks z = of("grid 8 8 ;");
        due("fits() of 64", z.fits(), -1L);
    }

    private static void tells() {
        about = "promise 21";
        PackWeeks x = of("grid 3 2 ;");
        due("tells() without a thing", x.tells(), -1);
        PackWeeks y = of("grid 2 2 ; thing a ship at 0 0 ;");
        due("tells(): every PLACE has a bearing of its own", y.tells(), 0);
        y.see(0, 0, 3);
        due("tells() of one that fits", y.tells(), -1);
        y.see(0, 0, 1);
        due("tells() of none that fits", y.tells(), -1);
        // three of one bearing from the corner, two from the second and from the third one
        PackWeeks z = of("grid 4 2 ; thing a ship at 0 0 ; thing b ship at 1 0 ; thing c hut at 2 1 ;");
        due("tells()", z.tells(), 13);
        // the ship drifts from the corner to the middle: four alike at first, then three, then three
        PackWeeks w = of("grid 3 3 ; drift 0 south 0 0 ; drift 1 east 0 0 ; thing a ship at 0 0 ;");
        due("tells(), a step on, of equal ones the first", w.tells(), 1);
        PackWeeks v = of("grid 2 2 ; drift 0 south 0 1 ; drift 1 west 0 1 ; thing a ship at 0 0 ;");
        v.see(0, 2, 0);
        due("fits()", v.fits(), 0x303L);
        due("tells()", v.tells(), 0);
    }

    private static void lasts() {
        about = "promise 22";
        PackWeeks x = of(SHIPS);
        due("lasts(0)", x.lasts(0), 8);
        due("lasts(1)", x.lasts(1), 33);
        due("lasts(2)", x.lasts(2), -1);
        due("lasts(-1)", x.lasts(-1), -1);
        PackWeeks y = of("grid 2 2 ; thing s ship at 0 0 ; crew s men 2 biscuit 10 ; eat step + out * 9 ;");
        due("0 + 1 + 2 + 3 + 4 = 10", y.lasts(0), 5);
        y.drift(2);
        due("2 + 3 of 9 left, and then 4", y.lasts(0), 3);
        y.haul(0, 1, 0);
        due("its sledge is out", y.lasts(0), 0);
        PackWeeks z = of("grid 2 2 ; thing s ship at 0 0 ; crew s men 2 biscuit 0 ; eat ( step = 3 ) * 2 ;");
        due("until the first step with too little", z.lasts(0), 3);
        PackWeeks w = of("grid 2 2 ; thing s ship at 0 0 ; crew s men 2 biscuit 0 ; eat 0 ;");
        due("200 at most", w.lasts(0), 200);
    }

    private static void share() {
        about = "promise 23";
        dueThrow("share() of no crew", () -> new PackWeeks().share());
        dueThrow("share() of one crew", () -> of("grid 2 2 ; thing s ship at 0 0 ; crew s men 2 biscuit 9 ;").share());
        // 140 for 8 a step: 17 steps, so 85 and 51
        due("share() from the second one", of(SHIPS).share(), -45);
        due("share() from the first one", of("grid 2 2 ; thing s ship at 0 0 ; thing t ship at 0 0 ; crew s men 3 biscuit 100 ; crew t men 5 biscuit 40 ;").share(), 45);
        due("share() of nothing to gain", of("grid 2 2 ; thing s ship at 0 0 ; thing t ship at 0 0 ; crew s men 3 biscuit 30 ; crew t men 5 biscuit 51 ;").share(), 0);
        due("share() of what lasts for ever", of("grid 2 2 ; thing s ship at 0 0 ; thing t ship at 0 0 ; crew s men 1 biscuit 9999 ; crew t men 1 biscuit 200 ;").share(), 0);
        due("share() of all it has", of("grid 2 2 ; thing s ship at 0 0 ; thing t ship at 0 0 ; crew s men 1 biscuit 20 ; crew t men 2 biscuit 0 ; eat ( crewmen = 2 ) * 2 ;").share(), 20);
        due("share() of 1", of("grid 2 2 ; thing s ship at 0 0 ; thing t ship at 0 0 ; crew s men 1 biscuit 11 ; crew t men 1 biscuit 9 ;").share(), 1);
        due("share() of 1 back", of("grid 2 2 ; thing s ship at 0 0 ; thing t ship at 0 0 ; crew s men 1 biscuit 9 ; crew t men 1 biscuit 11 ;").share(), -1);
        PackWeeks x = of("grid 2 2 ; thing s ship at 0 0 ; thing t ship at 0 0 ; crew s men 1 biscuit 20 ; crew t men 1 biscuit 0 ; eat step ;");
        x.drift(1);
        due("share(): 1 + 2 + 3 + 4 each of 20", x.share(), 10);
        due("all is as ahead", x.crew(1, 2), 0);
    }

    private static void through() {
        about = "promise 24";
        PackWeeks x = of("grid 2 2 ; gap a opens 5 nips 3 ; gap b opens 10 nips 1 ;");
        due("through(2, 0), out", x.through(2, 0), 1000000);
        due("through(1, 0)", x.through(1, 0), 0);
        due("through(1, 1)", x.through(1, 1), 900000);
        // waiting a day: by eight of ten one wide, no danger; by two of ten it is shut: 900000 at once, or 800000
        due("through(1, 2)", x.through(1, 2), 900000);
        // a day to wait, and by two of ten open again on the second: 800000 + 200000 * 0.9
        due("through(1, 3)", x.through(1, 3), 980000);
        due("through(0, 2)", x.through(0, 2), 315000);
        due("through(3, 1)", x.through(3, 1), -1);
        due("through(-1, 1)", x.through(-1, 1), -1);
        due("through(0, 41)", x.through(0, 41), -1);
        due("through(0, -1)", x.through(0, -1), -1);
        PackWeeks y = of("grid 2 2 ; gap a opens 3 nips 7 ;");
        // 0.3 * 0.3; then 3 * 300000 + 7 * 90000; and waiting gives 8 * 500000 / 10
        due("through(0, 1)", y.through(0, 1), 90000);
        due("through(0, 2): 3 * 400000 + 7 * 90000", y.through(0, 2), 183000);
        PackWeeks z = of("grid 2 2 ; gap a opens 0 nips 0 ;");
        due("through(0, 40), never", z.through(0, 40), 0);
        PackWeeks w = of("grid 2 2 ; gap a opens 1 nips 9 ; gap b opens 1 nips 9 ; gap c opens 1 nips 9 ; gap d opens 1 nips 9 ; gap e opens 1 nips 9 ;");
        // 10000, then 100 of them, then 1, cut to 0 behind that
        due("through(4, 1)", w.through(4, 1), 10000);
        due("through(3, 2)", w.through(3, 2), 100);
        due("through(2, 3)", w.through(2, 3), 1);
        due("through(1, 4)", w.through(1, 4), 0);
        due("through(5, 40)", w.through(5, 40), 1000000);
    }

    private static void now() {
        about = "promise 25";
        PackWeeks x = of("grid 2 2 ; gap a opens 5 nips 8 ; gap b opens 10 nips 0 ;");
        // going: 2 of ten; waiting: by eight of ten one wide, then 4 of ten
        due("now(0, 0, 1)", x.now(0, 0, 1), 1);
        due("now(0, 0, 2): 200000 against 320000", x.now(0, 0, 2), 0);
        due("now(0, 2, 2): 600000 against 480000", x.now(0, 2, 2), 1);
        due("now(0, 2, 0), as good as lost", x.now(0, 2, 0), 1);
        due("now(1, 0, 0)", x.now(1, 0, 0), 1);
        due("now(1, 2, 40)", x.now(1, 2, 40), 1);
        due("now(2, 0, 0)", x.now(2, 0, 0), -1);
        due("now(-1, 0, 0)", x.now(-1, 0, 0), -1);
        due("now(0, 3, 0)", x.now(0, 3, 0), -1);
        due("now(0, -1, 0)", x.now(0, -1, 0), -1);
        due("now(0, 0, 41)", x.now(0, 0, 41), -1);
        due("now(0, 0, -1)", x.now(0, 0, -1), -1);
    }

    private static void lost() {
        about = "promise 26";
        PackWeeks x = new PackWeeks();
        int[] least = {0, 0, 1, 2, 2, 3, 3, 3, 3, 4};
        int[] first = {0, -1, 1, 1, 2, 1, 2, 3, 4, 1};
        for (int n = 1; n < least.length; n++) {
            due("lost(" + n + ", 0)", x.lost(n, 0), least[n]);
            due("lost(" + n + ", 1)", x.lost(n, 1), first[n]);
        }
        due("lost(30, 0)", x.lost(30, 0), 5);
        due("lost(30, 1)", x.lost(30, 1), 14);
        due("lost(0, 0)", x.lost(0, 0), -1);
        due("lost(31, 0)", x.lost(31, 0), -1);
        due("lost(5, 2)", x.lost(5, 2), -1);
        due("lost(5, -1)", x.lost(5, -1), -1);
        PackWeeks y = of("grid 2 2 ; look day * day ;");
        // looks cost 1, 4, 9: day 1, then 2, then 3 is 14; day 2 first: 4 + 9
        due("lost(4, 0)", y.lost(4, 0), 13);
        due("lost(4, 1)", y.lost(4, 1), 2);
        due("lost(3, 0)", y.lost(3, 0), 5);
        due("lost(3, 1)", y.lost(3, 1), 1);
        due("lost(2, 0) at 99 at most", of("grid 2 2 ; look 500 ;").lost(2, 0), 99);
        due("lost(9, 0) at 0 at least", of("grid 2 2 ; look 1 - day * 2 ;").lost(9, 0), 0);
        due("lost(9, 1), of equal ones the first", of("grid 2 2 ; look 1 - day * 2 ;").lost(9, 1), 1);
    }

    private static void code() {
        about = "promise 27";
        PackWeeks none = new PackWeeks();
        due("code(-1) without signs", none.code(-1), -2);
        due("code(0) without signs", none.code(0), -2);
        PackWeeks one = of("grid 2 2 ; sign a often 7 ;");
        due("code(-1) of one sign", one.code(-1), 7);
        due("code(0) of one sign", one.code(0), 1);
        due("code(1)", one.code(1), -2);
        due("code(-2)", one.code(-2), -2);
        PackWeeks two = of("grid 2 2 ; sign a often 7 ; sign b often 8 ;");
        due("code(-1) of two", two.code(-1), 8 + 14);
        due("code(0)", two.code(0), 2);
        due("code(1)", two.code(1), 1);
        // 11, 12, 2 and 1, 21, 22 cost 2 2 3 and 1 3 4; of equal ones 2 2 3
        PackWeeks three = of("grid 2 2 ; sign a often 5 ; sign b often 5 ; sign c often 5 ;");
        due("code(-1) of three alike", three.code(-1), 35);
        due("code(0), the first told", three.code(0), 2);
        due("code(1)", three.code(1), 2);
        due("code(2)", three.code(2), 3);
        // 2 * 4 + 2 * 2 + 3 * 2 = 18 = 1 * 4 + 3 * 2 + 4 * 2: the most often has one blink then
        PackWeeks even = of("grid 2 2 ; sign a often 2 ; sign b often 4 ; sign c often 2 ;");
        due("code(-1) of two ways", even.code(-1), 18);
        due("code(1)", even.code(1), 1);
        due("code(0)", even.code(0), 3);
        due("code(2)", even.code(2), 4);
        PackWeeks steep = of("grid 2 2 ; sign a often 1 ; sign b often 3 ; sign c often 9 ; sign d often 27 ; sign e often 81 ; sign f often 1 ;");
        // 1, 3, 5, then the last three 7, 9, 10 (or 8 8 9 of the rest): 81 + 81 + 45 + 21 + 9 + 10
        due("code(4)", steep.code(4), 1);
        due("code(3)", steep.code(3), 3);
        due("code(2)", steep.code(2), 5);
        due("code(-1) of six", steep.code(-1), 81 + 81 + 45 + 21 + 9 + 10);
        due("code(0)", steep.code(0), 9);
        due("code(5)", steep.code(5), 10);
    }

    private static void carry() {
        about = "promise 28";
        due("carry(0) of none", new PackWeeks().carry(0), 0);
        due("carry(1) of none", new PackWeeks().carry(1), -1);
        due("carry(2)", new PackWeeks().carry(2), -2);
        due("carry(-1)", new PackWeeks().carry(-1), -2);
        PackWeeks x = of("grid 2 2 ; load a worth 10 takes 2 ; load b worth 30 takes 4 ; break 2 ;");
        due("carry(0)", x.carry(0), 14909);
        due("carry(1)", x.carry(1), 1);
        due("carry(0) without a law: 0.9", of("grid 2 2 ; load a worth 1 takes 3 ;").carry(0), 729);
        PackWeeks y = of("grid 2 2 ; load a worth 5 takes 1 ; load b worth 5 takes 1 ;");
        due("carry(0): (5000 + 4500) * 0.9", y.carry(0), 8550);
        due("carry(1), of equal ones the first", y.carry(1), 0);
        PackWeeks z = of("grid 2 2 ; load a worth 999 takes 9 ; load b worth 1 takes 1 ; break ( step = 1 ) * 99 ;");
        due("carry(0), the floe breaks in step 1", z.carry(0), 1000);
        due("carry(1)", z.carry(1), 1);
        PackWeeks w = of("grid 2 2 ; load a worth 1 takes 1 ; load b worth 2 takes 1 ; break 10 ;");
        due("carry(0), all is lost", w.carry(0), 0);
        due("carry(1), all is lost", w.carry(1), 0);
        due("carry(0), nothing breaks", of("grid 2 2 ; load a worth 1 takes 9 ; load b worth 2 takes 9 ; break 0 - 4 ;").carry(0), 3000);
        PackWeeks v = of("grid 2 2 ; load a worth 1 takes 1 ; break step ;");
        v.drift(5);
        due("carry(0), its own steps from 0 on", v.carry(0), 1000);
        // cut at each load: 9 ^ 9 of 10 ^ 9 of 1000 is 387; (1000 + 387) by the same is 537
        due("carry(0), cut twice", of("grid 2 2 ; load a worth 1 takes 9 ; load b worth 1 takes 9 ;").carry(0), 537);
    }

    private static void months() {
        about = "promise 29";
        due("months of nothing", new PackWeeks().months(0, 100, 0), 0);
        PackWeeks x = of("grid 2 2 ; thing s ship at 0 0 ; thing t ship at 0 0 ; crew s men 4 biscuit 10 ; crew t men 1 biscuit 3 ;");
        due("months(5, 1, 1)", x.months(5, 1, 1), 5);
        due("months(5, 9, 1)", x.months(5, 9, 1), 13);
        due("months(5, 9, 2): from the third step on", x.months(5, 9, 2), 7);
        due("months(5, 9, 0)", x.months(5, 9, 0), 0);
        due("all is as ahead", x.count(5), 0);
        due("all is as ahead", x.crew(0, 2), 10);
        due("months(-1, 1, 0)", x.months(-1, 1, 0), -1);
        due("months(10000, 1, 0)", x.months(10000, 1, 0), -1);
        due("months(0, 0, 0)", x.months(0, 0, 0), -1);
        due("months(0, 101, 0)", x.months(0, 101, 0), -1);
        due("months(0, 1, 3)", x.months(0, 1, 3), -1);
        due("months(0, 1, -1)", x.months(0, 1, -1), -1);
        String s = "grid 2 2 ; thing b bear at 0 0 ; thing h hut at 0 0 ; thing i hut at 1 0 ; thing j ship at 0 1 ; thing k ship at 1 1 ; ";
        PackWeeks y = of(s);
        due("months(77, 100, 0), a ship or a hut everywhere", y.months(77, 100, 0), 100);
        PackWeeks z = of(s + "thing c bear at 1 1 ; ");
        due("months(77, 50, 0) of two bears", z.months(77, 50, 0), 100);
        due("the bear is where it was", z.thing(0, 1) + z.thing(0, 2), 0);
        // seed 0: g is 12345, 1406932606, 654583775, 1449466924, ..: draws 0, 7, 8, 7
        PackWeeks w = of("grid 2 2 ; thing b bear at 0 1 ; thing h hut at 0 0 ;");
        due("months(0, 1, 0), it went north", w.months(0, 1, 0), 1);
        due("months(0, 4, 0), and stayed", w.months(0, 4, 0), 4);
        PackWeeks v = of("grid 2 3 ; drift 0 south 0 0 ; drift 1 south 0 0 ; thing b bear at 0 1 ; thing h hut at 0 1 ;");
        // it goes north and back by the flow while the hut goes south; then both are held at the rim
        due("months(0, 1, 0)", v.months(0, 1, 0), 0);
        due("months(0, 2, 0)", v.months(0, 2, 0), 1);
    }

    private static void mark() {
        about = "promise 30";
        PackWeeks x = of(SHIPS);
        due("mark(4, false)", x.mark(4, false), false);
        due("mark(-1, false)", x.mark(-1, false), false);
        due("mark(4, true)", x.mark(4, true), false);
        due("mark(3, true), nothing there", x.mark(3, true), false);
        x.haul(0, 2, 0);
        x.lend(0, 4);
        x.drift(1);
        x.see(0, 3, 3);
        due("mark(3, false)", x.mark(3, false), true);
        due("a mark can't be undone", x.count(11), 3);
        x.lend(0, 6);
        x.see(0, 3, 3);
        x.drift(7);
        due("mark(3, true)", x.mark(3, true), true);
        int[] then = {0, 5, 31, 4, 1, 2, 0, 0};
        for (int what = 0; what < 8; what++) {
            due("crew(0, " + what + ")", x.crew(0, what), then[what]);
        }
        due("steps", x.count(5), 1);
        due("SEEN", x.count(10), 1);
        due("nothing can be undone", x.count(11), 0);
        due("undo()", x.undo(), false);
        x.drift(1);
        due("mark(0, true)", x.mark(0, true), false);
        due("mark(3, true) again", x.mark(3, true), true);
        due("steps", x.count(5), 1);
        x.drift(2);
        due("mark(3, false), anew", x.mark(3, false), true);
        x.drift(2);
        x.mark(3, true);
        due("steps", x.count(5), 3);
    }

    private static void count() {
        about = "promise 31";
        PackWeeks x = of("grid 7 3 ; thing s ship at 0 0 ; thing h hut at 1 0 ; thing b bear at 1 1 ; lead 0 0 round 2 from 0 for 1 ; lead 0 1 round 2 from 0 for 1 ; "
                + "crew s men 1 biscuit 5 ; gap g opens 1 nips 1 ; gap i opens 1 nips 1 ; gap j opens 1 nips 1 ; gap k opens 1 nips 1 ; "
                + "sign l often 1 ; sign m often 2 ; sign n often 3 ; sign o often 3 ; sign p often 3 ; "
                + "load q worth 1 takes 1 ; load r worth 1 takes 1 ; load t worth 1 takes 1 ; load u worth 1 takes 1 ; load v worth 1 takes 1 ; load w worth 1 takes 1 ;");
        weeks(x, "drift 1 ; drift 1 ; home s ; lend s 4 ; drift 1 ; haul s 1 1 ; drift 3 ;");
        x.drift(9);
        x.drift(2);
        for (int i = 0; i < 7; i++) {
            x.see(0, i, 3);
        }
        x.drift(1);
        feedText(x, "grid 7 7");
        int[] all = {7, 3, 3, 2, 1, 12, 4, 5, 6, 7, 7, 3, 8};
        for (int i = 0; i < all.length; i++) {
            due("count(" + i + ")", x.count(i), all[i]);
        }
        due("count(13)", x.count(13), -1);
        due("count(-1)", x.count(-1), -1);
        due("count(MAX)", x.count(MAX), -1);
    }

    public static void main(String[] args) {
        newObject();
        feed();
        packTokens();
        packLines();
        packLaws();
        packStays();
        weeksRead();
        flow();
        open();
        thing();
        crew();
        drift();
        laws();
        haul();
        lend();
        home();
        undo();
        judged();
        where();
        meet();
        reach();
        setout();
        see();
        fits();
        tells();
        lasts();
        share();
        through();
        now();
        lost();
        code();
        carry();
        months();
        mark();
        count();
        finish();
    }
}
