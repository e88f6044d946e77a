/** Each sentence on STEPS, leads, weeks by hand and MARKS that names an end: what is still so, and what is no more. */
public final class PackWeeksHandEdges extends Asking {
    private static final String ONE = "thing s ship at 0 0;crew s men 1 biscuit 50;";

    private static void firstPack() {
        about = "At first: grid 2 2, nothing else";
        due("all of it", picture(new PackWeeks()), picture(of("grid 2 2;")));
        PackWeeks x = new PackWeeks();
        for (int what = 0; what <= 12; what++) {
            due("count(" + what + ")", x.count(what), what < 2 ? 2 : 0);
        }
        dueThrow("thing(0, 0)", () -> x.thing(0, 0));
        dueThrow("crew(0, 0)", () -> x.crew(0, 0));
        dueThrow("share()", x::share);
        due("flow(1, 1)", x.flow(1, 1), 4);
        due("flow(2, 1)", x.flow(2, 1), -1);
        due("open(1, 1, 200)", x.open(1, 1, 200), 0);
        due("drift(30)", x.drift(30), 30);
        due("undo()", x.undo(), true);
        due("undo()", x.undo(), false);
        for (int mark = 0; mark < 4; mark++) {
            due("mark(" + mark + ", true)", x.mark(mark, true), false);
        }
        due("fits()", x.fits(), 0x303);
        due("through(0, 0)", x.through(0, 0), 1000000);
    }

    private static void noneOffTheGrid() {
        about = "All things, and sledges that are out, go one PLACE by the FLOW of theirs; none goes off the grid";
        // a square of four ways: each way runs to a rim and stays there
        String[] ways = {"north", "east", "south", "west"};
        int[][] ends = {{1, 0}, {2, 1}, {1, 2}, {0, 1}};
        for (int i = 0; i < 4; i++) {
            PackWeeks x = of("grid 3 3;" + "drift 0 W 0 2;drift 1 W 0 2;drift 2 W 0 2;".replace("W", ways[i])
                    + "thing s ship at 1 1;thing t ship at 1 1;crew s men 1 biscuit 9;crew t men 1 biscuit 9;");
            for (int k = 1; k <= 3; k++) {
                x.drift(1);
                due(ways[i] + ", over, step " + k, x.thing(0, 1), ends[i][0]);
                due(ways[i] + ", down, step " + k, x.thing(0, 2), ends[i][1]);
                due(ways[i] + ", the sledge that is in", x.crew(0, 5) + 8 * x.crew(0, 6), ends[i][0] + 8 * ends[i][1]);
            }
            due("haul to the middle", x.haul(1, 1, 1), true);
            due("drift(30)", x.drift(30), 33);
            due(ways[i] + ", the sledge that is out, over", x.crew(1, 5), ends[i][0]);
            due(ways[i] + ", the sledge that is out, down", x.crew(1, 6), ends[i][1]);
            due("where(0, 200)", x.where(0, 200), ends[i][0] + 8 * ends[i][1]);
        }
        // the corners of the greatest grid, each pushed out over both of its rims
        int[][] corners = {{0, 0, 0}, {0, 0, 3}, {7, 0, 0}, {7, 0, 1}, {0, 7, 2}, {0, 7, 3}, {7, 7, 2}, {7, 7, 1}};
        for (int[] corner : corners) {
            PackWeeks x = of("grid 8 8;drift " + corner[1] + " " + ways[corner[2]] + " 0 7;thing a hut at " + corner[0] + " " + corner[1] + ";");
            x.drift(1);
            due("a corner", x.where(0, 0), corner[0] + 8 * corner[1]);
            due("a corner", x.where(0, 1), corner[0] + 8 * corner[1]);
        }
    }

    private static void biscuitEaten() {
        about = "What each crew eats is gone from its biscuit (0 at least)";
        int[][] all = {{0, 0}, {6, 0}, {7, 0}, {8, 1}, {9999, 9992}};
        for (int[] one : all) {
            PackWeeks x = of("grid 2 2;thing s ship at 0 0;crew s men 7 biscuit " + one[0] + ";");
            x.drift(1);
            due("of " + one[0], x.crew(0, 2), one[1]);
        }
        about = "step: those that passed ahead of this one";
        PackWeeks x = of("grid 2 2;" + ONE + "eat step;");
        int left = 50;
        for (int step = 0; step < 6; step++) {
            x.drift(1);
            left -= step;
            due("behind step " + step, x.crew(0, 2), left);
        }
        about = "out: 1 its sledge is out";
        PackWeeks y = of("grid 2 2;" + ONE + "eat 1+out*9;");
        y.drift(1);
        due("in", y.crew(0, 2), 49);
        y.haul(0, 1, 0);
        y.drift(1);
        due("out", y.crew(0, 2), 39);
        y.haul(0, 0, 0);
        y.home(0);
        y.drift(1);
        due("in again", y.crew(0, 2), 38);
    }

    private static void leadsOpen() {
        about = "A LEAD is OPEN in the steps t for which (t - from) modulo round is below for";
        int[][] turns = {{1, 0, 0}, {1, 0, 1}, {2, 0, 1}, {2, 1, 1}, {2, 1, 2}, {5, 4, 1}, {5, 4, 2}, {5, 2, 4}, {5, 3, 0}, {30, 29, 1}, {30, 29, 29}, {30, 0, 29}, {30, 29, 30}, {30, 0, 0}};
        for (int[] turn : turns) {
            PackWeeks x = of("grid 2 2;lead 1 0 round " + turn[0] + " from " + turn[1] + " for " + turn[2] + ";");
            for (int t = 0; t <= 61; t++) {
                int open = Math.floorMod(t - turn[1], turn[0]) < turn[2] ? 1 : 0;
                due("round " + turn[0] + " from " + turn[1] + " for " + turn[2] + ", step " + t, x.open(1, 0, t), open);
            }
            x.drift(7);
            due("seven steps on", x.open(1, 0, 0), Math.floorMod(7 - turn[1], turn[0]) < turn[2] ? 1 : 0);
            due("seven steps on, 200 from then", x.open(1, 0, 200), Math.floorMod(207 - turn[1], turn[0]) < turn[2] ? 1 : 0);
        }
        about = "open: a PLACE, so many steps from now (0 to 200), NONE: others";
        PackWeeks x = of("grid 3 2;lead 2 1 round 1 from 0 for 1;");
        due("open(2, 1, 0)", x.open(2, 1, 0), 1);
        due("open(2, 1, 200)", x.open(2, 1, 200), 1);
        due("open(0, 0, 0), no lead", x.open(0, 0, 0), 0);
        due("open(2, 1, -1)", x.open(2, 1, -1), -1);
        due("open(2, 1, 201)", x.open(2, 1, 201), -1);
        due("open(3, 1, 0)", x.open(3, 1, 0), -1);
        due("open(2, 2, 0)", x.open(2, 2, 0), -1);
        due("open(-1, 1, 0)", x.open(-1, 1, 0), -1);
        due("open(2, -1, 0)", x.open(2, -1, 0), -1);
        due("open(MAX, 1, 0)", x.open(MAX, 1, 0), -1);
        due("open(2, 1, MIN)", x.open(2, 1, MIN), -1);
        due("open(10, 0, 0), a row on", x.open(10, 0, 0), -1);
    }

    private static void drift() {
        about = "drift: DRIFT (1 to 30): how many steps passed; NONE: others";
        PackWeeks x = of("grid 2 2;" + ONE);
        int[] others = {0, -1, 31, 32, MIN, MAX, 1000};
        for (int steps : others) {
            due("drift(" + steps + ")", x.drift(steps), -1);
        }
        due("none passed", x.count(5), 0);
        due("nothing can be undone", x.count(11), 0);
        due("drift(1)", x.drift(1), 1);
        due("drift(30)", x.drift(30), 31);
        due("drift(2)", x.drift(2), 33);
        due("count(5)", x.count(5), 33);
        due("count(11)", x.count(11), 3);
        PackWeeks y = new PackWeeks();
        for (int i = 1; i <= 511; i++) {
            y.drift(30);
        }
        due("steps passed in 512 calls", y.count(5), 15330);
    }

    private static PackWeeks hauler(String more) {
        return of("grid 8 8;thing s ship at 3 3;crew s men 1 biscuit 9;" + more);
    }

    private static void haulFar() {
        about = "HAUL: by so many PLACES as pace at most, each next to the one ahead (over or down)";
        for (int pace = 1; pace <= 4; pace++) {
            for (int place = 0; place < 64; place++) {
                int far = Math.abs(place % 8 - 3) + Math.abs(place / 8 - 3);
                PackWeeks x = hauler("pace " + pace + ";");
                boolean can = far > 0 && far <= pace;
                due("pace " + pace + " to " + place, x.haul(0, place % 8, place / 8), can);
                due("hauled", x.crew(0, 7), can ? 1 : 0);
                due("out", x.crew(0, 4), can ? 1 : 0);
                due("where it is", x.crew(0, 5) + 8 * x.crew(0, 6), can ? place : 27);
            }
        }
        PackWeeks rim = of("grid 8 8;pace 1;thing s ship at 7 3;thing t ship at 0 4;crew s men 1 biscuit 9;crew t men 1 biscuit 9;");
        due("no way over the rim, east", rim.haul(0, 0, 4), false);
        due("no way over the rim, west", rim.haul(1, 7, 3), false);
        PackWeeks narrow = of("grid 3 3;pace 4;thing s ship at 2 0;crew s men 1 biscuit 9;");
        due("off the grid", narrow.haul(0, 3, 0), false);
        due("off the grid", narrow.haul(0, 2, 3), false);
        due("the far corner", narrow.haul(0, 0, 2), true);
        about = "HAUL to another PLACE";
        PackWeeks same = hauler("");
        due("where it stands", same.haul(0, 3, 3), false);
        due("it is in", same.crew(0, 4), 0);
        due("next to it", same.haul(0, 3, 4), true);
        same.drift(1);
        due("where it stands, out", same.haul(0, 3, 4), false);
        due("it may still be hauled", same.haul(0, 3, 3), true);
    }

    private static void haulLeads() {
        about = "HAUL: none with an OPEN lead (but where it stands)";
        String open = " round 1 from 0 for 1;";
        due("to an OPEN lead", hauler("lead 4 3" + open).haul(0, 4, 3), false);
        due("through an OPEN lead", hauler("lead 4 3" + open).haul(0, 5, 3), false);
        due("round an OPEN lead", hauler("lead 4 3" + open).haul(0, 4, 4), true);
        due("from an OPEN lead", hauler("lead 3 3" + open).haul(0, 5, 3), true);
        due("through a lead that never opens", hauler("lead 4 3 round 1 from 0 for 0;").haul(0, 5, 3), true);
        String wall = "lead 4 3" + open + "lead 3 4" + open + "lead 2 3" + open;
        due("one way is left", hauler(wall).haul(0, 3, 2), true);
        due("and on by it", hauler(wall).haul(0, 4, 2), true);
        due("none is left", hauler(wall + "lead 3 2" + open + "pace 4;").haul(0, 3, 1), false);
        PackWeeks x = hauler("lead 4 3 round 3 from 1 for 1;");
        due("a lead that is shut yet", x.open(4, 3, 0), 0);
        due("to it", x.haul(0, 4, 3), true);
        x.drift(1);
        due("it is OPEN where it stands", x.open(4, 3, 0), 1);
        due("from it", x.haul(0, 4, 4), true);
        x.drift(3);
        due("back to it, OPEN", x.haul(0, 4, 3), false);
        x.drift(1);
        due("back to it, shut", x.haul(0, 4, 3), true);
        // round it and back to where it stands is no other PLACE
        due("another way of four round it", hauler("pace 4;lead 4 3" + open).haul(0, 5, 3), true);
        due("three are too few to go round it", hauler("pace 3;lead 4 3" + open).haul(0, 5, 3), false);
    }

    private static void haulOnce() {
        about = "HAUL: once a step; false: others, it can't be";
        PackWeeks x = of("grid 4 4;thing s ship at 0 0;thing t ship at 3 3;crew s men 1 biscuit 9;crew t men 1 biscuit 9;");
        due("haul(-1, 1, 0)", x.haul(-1, 1, 0), false);
        due("haul(2, 1, 0)", x.haul(2, 1, 0), false);
        due("haul(MIN, 1, 0)", x.haul(MIN, 1, 0), false);
        due("haul(0, -1, 0)", x.haul(0, -1, 0), false);
        due("haul(0, 0, -1)", x.haul(0, 0, -1), false);
        due("haul(0, 4, 0)", x.haul(0, 4, 0), false);
        due("haul(0, 0, 4)", x.haul(0, 0, 4), false);
        due("haul(0, MAX, MAX)", x.haul(0, MAX, MAX), false);
        due("nothing can be undone", x.count(11), 0);
        due("haul", x.haul(0, 1, 0), true);
        due("a second time", x.haul(0, 0, 0), false);
        due("the other crew's", x.haul(1, 3, 2), true);
        due("count(11)", x.count(11), 2);
        x.drift(1);
        due("in the next step", x.haul(0, 0, 0), true);
        due("home", x.home(0), true);
        due("from its ship in the same step", x.haul(0, 0, 1), false);
        x.drift(1);
        due("crew(0, 7)", x.crew(0, 7), 0);
        due("from its ship in the next step", x.haul(0, 0, 1), true);
        due("crew(0, 7)", x.crew(0, 7), 1);
        due("haul without a crew", new PackWeeks().haul(0, 1, 0), false);
        PackWeeks one = of("grid 2 2;" + ONE);
        due("haul(1, 1, 0) of one crew", one.haul(1, 1, 0), false);
        due("haul(0, 1, 0) of one crew", one.haul(0, 1, 0), true);
    }

    private static PackWeeks lender(int biscuit, int other) {
        PackWeeks x = of("grid 4 2;thing s ship at 0 0;thing t ship at 2 0;crew s men 1 biscuit " + biscuit + ";crew t men 1 biscuit " + other + ";eat 0;");
        due("haul", x.haul(0, 2, 0), true);
        return x;
    }

    private static void lend() {
        about = "LEND (1 to 999): how much (no more than it has); NONE: others";
        int[] others = {0, -1, 1000, 1001, MIN, MAX};
        PackWeeks x = lender(2000, 0);
        for (int much : others) {
            due("lend(0, " + much + ")", x.lend(0, much), -1);
        }
        due("lend(-1, 1)", x.lend(-1, 1), -1);
        due("lend(2, 1)", x.lend(2, 1), -1);
        due("biscuit", x.crew(0, 2), 2000);
        due("count(11)", x.count(11), 1);
        due("lend(0, 1)", x.lend(0, 1), 1);
        due("lend(0, 999)", x.lend(0, 999), 999);
        due("lend(0, 998)", x.lend(0, 998), 998);
        due("lend(0, 3), it has 2", x.lend(0, 3), 2);
        due("lend(0, 1), it has none", x.lend(0, 1), -1);
        due("biscuit", x.crew(0, 2), 0);
        due("biscuit of the other", x.crew(1, 2), 2000);
        due("owed", x.crew(0, 3), 2000);
        due("owes", x.crew(1, 3), -2000);
        due("all it has", lender(7, 3).lend(0, 7), 7);
        due("one more than it has", lender(7, 3).lend(0, 8), 7);
        due("more than 9999 together", lender(9999, 9999).lend(0, 999), 999);
        PackWeeks much = lender(9999, 9999);
        much.lend(0, 999);
        due("more than 9999", much.crew(1, 2), 10998);
        about = "LEND: from a crew that has some and whose sledge is out where the other crew's ship is; NONE: it can't be";
        due("it has none", lender(0, 9).lend(0, 1), -1);
        due("it has one", lender(1, 9).lend(0, 1), 1);
        PackWeeks in = of("grid 2 2;thing s ship at 0 0;thing t ship at 0 0;crew s men 1 biscuit 9;crew t men 1 biscuit 9;");
        due("in, though both ships are at one PLACE", in.lend(0, 1), -1);
        in.haul(0, 1, 0);
        due("out next to it", in.lend(0, 1), -1);
        in.drift(1);
        in.haul(0, 0, 0);
        due("out where both ships are", in.lend(0, 1), 1);
        due("the other's sledge is in", in.lend(1, 1), -1);
        PackWeeks away = lender(5, 5);
        due("home, not there", away.home(0), false);
        away.drift(1);
        away.haul(0, 1, 0);
        due("no more there", away.lend(0, 1), -1);
        PackWeeks own = of("grid 2 2;thing s ship at 0 0;crew s men 1 biscuit 9;");
        own.haul(0, 1, 0);
        own.drift(1);
        own.haul(0, 0, 0);
        due("to its own ship", own.lend(0, 1), -1);
        PackWeeks back = of("grid 4 2;thing s ship at 0 0;thing t ship at 1 0;crew s men 1 biscuit 20;crew t men 1 biscuit 20;eat 0;");
        back.haul(0, 1, 0);
        back.haul(1, 0, 0);
        back.lend(0, 15);
        back.lend(1, 15);
        due("owed as much as it owes", back.crew(0, 3), 0);
        back.lend(1, 20);
        due("owes more", back.crew(0, 3), -20);
        due("is owed more", back.crew(1, 3), 20);
        due("it has none any more", back.lend(1, 1), -1);
    }

    private static void home() {
        about = "HOME: a sledge that is out, where its own ship is, is in; false: others, it can't be";
        PackWeeks x = of("grid 3 2;thing s ship at 0 0;thing t ship at 1 0;crew s men 1 biscuit 9;crew t men 1 biscuit 9;");
        due("home(-1)", x.home(-1), false);
        due("home(2)", x.home(2), false);
        due("home(MAX)", x.home(MAX), false);
        due("it is in", x.home(0), false);
        x.haul(0, 1, 0);
        due("at another's ship", x.home(0), false);
        due("the other one is in", x.home(1), false);
        x.drift(1);
        x.haul(0, 0, 0);
        due("at its own", x.home(0), true);
        due("in", x.crew(0, 4), 0);
        due("a second time", x.home(0), false);
        due("count(11)", x.count(11), 4);
        due("home without a crew", new PackWeeks().home(0), false);
        PackWeeks met = of("grid 3 2;drift 0 east 0 0;thing s ship at 0 0;crew s men 1 biscuit 9;");
        met.haul(0, 1, 0);
        due("ahead of its ship", met.home(0), false);
        met.drift(1);
        due("its ship came to it", met.home(0), true);
    }

    private static void undo() {
        about = "UNDO: these, the last 16, one by one; false: nothing can be";
        PackWeeks x = of("grid 2 2;" + ONE + "eat 0;");
        due("of none", x.undo(), false);
        for (int i = 1; i <= 15; i++) {
            x.drift(1);
        }
        due("count(11) of 15", x.count(11), 15);
        x.drift(1);
        due("count(11) of 16", x.count(11), 16);
        x.drift(1);
        due("count(11) of 17", x.count(11), 16);
        for (int i = 16; i >= 1; i--) {
            due("undo of " + i, x.undo(), true);
            due("steps", x.count(5), i);
            due("count(11)", x.count(11), i - 1);
        }
        due("the 17th", x.undo(), false);
        due("steps", x.count(5), 1);
        PackWeeks y = new PackWeeks();
        for (int i = 1; i <= 100; i++) {
            y.drift(i % 30 + 1);
            if (i % 7 == 0) {
                y.undo();
            }
        }
        due("count(11)", y.count(11), 16);
        about = "UNDO: each of DRIFT, HAUL, LEND, HOME is one";
        PackWeeks z = of("grid 3 2;thing s ship at 0 0;thing t ship at 1 0;crew s men 1 biscuit 100;crew t men 2 biscuit 100;");
        z.haul(0, 1, 0);
        z.lend(0, 5);
        z.drift(30);
        z.haul(0, 0, 0);
        z.home(0);
        due("count(11)", z.count(11), 5);
        due("HOME", z.undo(), true);
        due("out again", z.crew(0, 4), 1);
        due("hauled", z.crew(0, 7), 1);
        due("HAUL", z.undo(), true);
        due("where it was", z.crew(0, 5), 1);
        due("not hauled", z.crew(0, 7), 0);
        due("DRIFT of 30", z.undo(), true);
        due("steps", z.count(5), 0);
        due("biscuit", z.crew(1, 2), 105);
        due("hauled in that step", z.crew(0, 7), 1);
        due("LEND", z.undo(), true);
        due("biscuit", z.crew(1, 2), 100);
        due("debts", z.crew(1, 3), 0);
        due("HAUL", z.undo(), true);
        due("in", z.crew(0, 4), 0);
        due("it may be hauled again", z.haul(0, 1, 0), true);
        z.undo();
        due("nothing", z.undo(), false);
        about = "UNDO: what can't be, and what is no work by hand, is none of these";
        PackWeeks w = of("grid 3 2;thing s ship at 0 0;crew s men 1 biscuit 100;");
        w.drift(1);
        w.drift(31);
        w.haul(0, 0, 0);
        w.haul(0, 9, 0);
        w.lend(0, 1);
        w.home(0);
        w.see(0, 0, 3);
        w.mark(0, false);
        weeks(w, "drift 3;");
        pack(w, "grid 9 9;");
        w.months(1, 100, 0);
        w.judged(1);
        due("count(11)", w.count(11), 1);
        due("undo", w.undo(), true);
        due("steps", w.count(5), 0);
        due("undo", w.undo(), false);
        due("the WEEKS stay", w.count(9), 1);
        due("the MARK stays", w.mark(0, true), true);
        due("steps", w.count(5), 1);
    }

    private static void judged() {
        about = "JUDGED: the first line (from 0) that can't be (NONE: all can); -2: others";
        PackWeeks x = of("grid 3 2;thing s ship at 0 0;thing t ship at 1 0;crew s men 3 biscuit 10;crew t men 2 biscuit 100;");
        int[] others = {-1, 3, 4, MIN, MAX};
        for (int what : others) {
            due("judged(" + what + ")", x.judged(what), -2);
        }
        due("no WEEKS", x.judged(0), -1);
        due("no WEEKS, steps", x.judged(1), 0);
        due("no WEEKS, biscuit", x.judged(2), 110);
        due("weeks", weeks(x, "home s;drift 1;"), 0);
        due("the first line", x.judged(0), 0);
        due("weeks", weeks(x, times(23, "drift 1;") + "lend s 1;"), 0);
        due("the last line", x.judged(0), 23);
        due("steps", x.judged(1), 23);
        due("weeks", weeks(x, "haul s 1 0;haul s 0 0;lend t 1;home s;drift 1;"), 0);
        due("the first of three", x.judged(0), 1);
        about = "JUDGED: lines that can't be are left out; drift always can";
        due("weeks", weeks(x, "haul s 0 0;haul s 1 0;home s;lend s 999;lend s 1;drift 2;haul s 0 0;home s;drift 30;"), 0);
        due("the first", x.judged(0), 0);
        due("steps", x.judged(1), 32);
        due("biscuit: all lent, then two men eat", x.judged(2), 46);
        due("weeks of 24 drifts of 30", weeks(x, times(24, "drift 30;")), 0);
        due("all can", x.judged(0), -1);
        due("steps", x.judged(1), 720);
        due("none is left", x.judged(2), 0);
        about = "JUDGED: from the begin, and all is as ahead";
        due("weeks", weeks(x, "drift 1;"), 0);
        x.drift(3);
        x.haul(0, 2, 0);
        due("steps", x.judged(1), 1);
        due("biscuit", x.judged(2), 105);
        due("steps by hand", x.count(5), 3);
        due("biscuit by hand", x.crew(0, 2), 1);
        due("the sledge", x.crew(0, 5), 2);
        PackWeeks y = new PackWeeks();
        due("no crew, biscuit", y.judged(2), 0);
        weeks(y, "drift 4;");
        due("no crew, steps", y.judged(1), 4);
        PackWeeks one = of("grid 2 2;" + ONE);
        due("one crew, biscuit", one.judged(2), 50);
        weeks(one, "haul s 1 0;lend s 1;");
        due("LEND of one crew can't be", one.judged(0), 1);
    }

    private static void marks() {
        about = "MARKS 0 to 3; false: none such, nothing is on it (back)";
        PackWeeks x = of("grid 2 2;" + ONE + "eat 1;");
        int[] others = {-1, 4, 5, MIN, MAX};
        for (int mark : others) {
            due("mark(" + mark + ", false)", x.mark(mark, false), false);
            due("mark(" + mark + ", true)", x.mark(mark, true), false);
        }
        for (int mark = 0; mark < 4; mark++) {
            due("nothing is on " + mark, x.mark(mark, true), false);
        }
        for (int mark = 3; mark >= 0; mark--) {
            x.drift(mark + 1);
            due("mark(" + mark + ", false)", x.mark(mark, false), true);
        }
        int[] steps = {10, 9, 7, 4};
        for (int mark = 0; mark < 4; mark++) {
            due("mark(" + mark + ", true)", x.mark(mark, true), true);
            due("steps", x.count(5), steps[mark]);
            due("biscuit", x.crew(0, 2), 50 - steps[mark]);
        }
        due("laid over", x.mark(0, false), true);
        x.drift(9);
        due("mark(0, true)", x.mark(0, true), true);
        due("steps", x.count(5), 4);
        due("mark(1, true)", x.mark(1, true), true);
        due("steps", x.count(5), 9);
        about = "MARKS hold where all are, the step, biscuit, debts, what is SEEN";
        PackWeeks y = of("grid 4 2;drift 0 east 0 3;thing s ship at 0 0;thing t ship at 1 0;crew s men 1 biscuit 50;crew t men 1 biscuit 50;");
        y.haul(0, 1, 0);
        y.lend(0, 9);
        for (int i = 0; i < 8; i++) {
            y.see(0, 0, 3);
        }
        y.mark(2, false);
        y.drift(2);
        due("eight are SEEN", y.see(0, 0, 3), false);
        y.mark(3, false);
        y.mark(2, true);
        due("step", y.count(5), 0);
        due("where a thing is", y.thing(0, 1), 0);
        due("where a sledge is", y.crew(0, 5), 1);
        due("out", y.crew(0, 4), 1);
        due("biscuit", y.crew(0, 2), 41);
        due("debts", y.crew(1, 3), -9);
        due("SEEN", y.count(10), 8);
        PackWeeks z = of("grid 4 2;thing s ship at 0 0;");
        z.mark(0, false);
        z.see(0, 0, 3);
        due("fits()", z.fits(), 0xE);
        z.mark(1, false);
        z.mark(0, true);
        due("nothing SEEN", z.count(10), 0);
        due("fits()", z.fits(), 0xF0F);
        z.mark(1, true);
        due("SEEN", z.count(10), 1);
        due("fits()", z.fits(), 0xE);
        PackWeeks sights = of("grid 4 2;drift 0 west 1 3;thing a cairn at 0 0;thing b cairn at 3 0;thing c cairn at 0 1;");
        sights.mark(0, false);
        sights.see(1, 0, 7);
        sights.see(2, 1, 2);
        sights.mark(1, false);
        due("fits() of the first two", sights.fits(), 4);
        sights.mark(0, true);
        sights.see(0, 3, 0);
        sights.see(0, 0, 3);
        sights.mark(2, false);
        due("fits() of others", sights.fits(), 0xE);
        sights.mark(1, true);
        due("fits() of the first two again", sights.fits(), 4);
        sights.mark(2, true);
        due("fits() of the others again", sights.fits(), 0xE);
        about = "Nothing can be undone when a MARK is gone back to";
        PackWeeks w = new PackWeeks();
        w.drift(1);
        w.mark(0, false);
        due("laid: count(11)", w.count(11), 1);
        due("laid: undo", w.undo(), true);
        due("laid: steps", w.count(5), 0);
        w.drift(1);
        w.mark(3, true);
        due("none on it: count(11)", w.count(11), 1);
        due("back", w.mark(0, true), true);
        due("count(11)", w.count(11), 0);
        due("undo", w.undo(), false);
        due("steps", w.count(5), 1);
        w.drift(2);
        due("what comes then can be", w.undo(), true);
        due("steps", w.count(5), 1);
    }

    private static void newPack() {
        String before = "grid 5 4;drift 0 east 0 3;thing s ship at 0 0;thing t ship at 1 0;thing b bear at 2 2;lead 1 1 round 3 from 0 for 2;"
                + "crew s men 3 biscuit 90;crew t men 2 biscuit 80;pace 4;gap g opens 3 nips 2;sign i often 9;load l worth 9 takes 2;eat 5;look 6;break 7;";
        String after = "grid 4 5;thing t ship at 2 1;thing s ship at 3 1;crew s men 4 biscuit 77;crew t men 1 biscuit 8;";
        about = "Without a FAULT a PACK is the PACK from then on";
        PackWeeks x = of(before);
        x.haul(0, 1, 0);
        x.lend(0, 9);
        x.drift(3);
        x.see(0, 0, 3);
        x.mark(0, false);
        x.mark(3, false);
        weeks(x, "drift 2;home s;");
        due("pack", pack(x, after), 0);
        due("all of it", picture(x), picture(of(after)));
        PackWeeks y = of(after);
        y.drift(1);
        y.mark(2, false);
        due("the same anew", pack(y, after), 0);
        due("all of it", picture(y), picture(of(after)));
        PackWeeks turns = new PackWeeks();
        String loads = "grid 2 2;load l worth 9 takes 2;" + times(5, "load # worth 4 takes 1;");
        String[] packs = {before, after, "grid 2 2;load l worth 9 takes 2;", "grid 8 8;drift 7 north 0 7;drift 0 south 0 7;", loads, "grid 2 2;", before, loads, after, after};
        for (String text : packs) {
            due("by turns", pack(turns, text), 0);
            due("hauled", turns.haul(0, turns.count(4) > 0 ? turns.crew(0, 5) ^ 1 : 0, turns.count(4) > 0 ? turns.crew(0, 6) : 0), turns.count(4) > 0);
        }
        due("pack", pack(turns, after), 0);
        due("all of it", picture(turns), picture(of(after)));
        PackWeeks asked = new PackWeeks();
        for (String text : packs) {
            PackWeeks fresh = of(text);
            pack(asked, text);
            for (int what = 0; what < 2; what++) {
                due("carry(" + what + ") of " + text, asked.carry(what), fresh.carry(what));
                due("lost(9, " + what + ") of " + text, asked.lost(9, what), fresh.lost(9, what));
                due("through(" + what + ", 9) of " + text, asked.through(what, 9), fresh.through(what, 9));
                due("code(" + what + ") of " + text, asked.code(what), fresh.code(what));
            }
        }
        for (int i = 0; i + 1 < packs.length; i++) {
            PackWeeks second = new PackWeeks();
            for (int k = 0; k <= i; k++) {
                pack(second, packs[k]);
            }
            due("all of the " + i + "th", picture(second), picture(of(packs[i])));
        }
        about = "A PACK with a FAULT leaves nothing behind";
        PackWeeks z = new PackWeeks();
        due("pack", pack(z, before + "|"), 1 + 16 * before.length());
        due("all of it", picture(z), picture(new PackWeeks()));
        PackWeeks w = new PackWeeks();
        pack(w, before + "pace 3;");
        due("pack", pack(w, after), 0);
        due("all of it", picture(w), picture(of(after)));
        about = "WEEKS are the WEEKS";
        PackWeeks v = of(after);
        due("weeks", weeks(v, "drift 5;drift 6;home s;"), 0);
        due("weeks", weeks(v, "drift 7;"), 0);
        due("count(9)", v.count(9), 1);
        due("judged(1)", v.judged(1), 7);
        due("a FAULT", weeks(v, "drift 9;drift 9;drift"), 1 + 16 * 21);
        due("count(9)", v.count(9), 1);
        due("judged(1)", v.judged(1), 7);
        due("none", weeks(v, ""), 0);
        due("count(9)", v.count(9), 0);
        due("judged(1)", v.judged(1), 0);
    }

    public static void main(String[] args) {
        firstPack();
        noneOffTheGrid();
        biscuitEaten();
        leadsOpen();
        drift();
        haulFar();
        haulLeads();
        haulOnce();
        lend();
        home();
        undo();
        judged();
        marks();
        newPack();
        finish();
    }
}
