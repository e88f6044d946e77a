/** Each sentence on what is asked of a PACK that names an end: the last value that is still so, the first that is not. */
public final class PackWeeksAnswerEdges extends Asking {
    /** One current through all 64 PLACES, row by row, to and fro; its end at 0 7 is held by the rim. */
    private static final String SNAKE = "grid 8 8;drift 0 east 0 6;drift 0 south 7 7;drift 1 west 1 7;drift 1 south 0 0;drift 2 east 0 6;drift 2 south 7 7;"
            + "drift 3 west 1 7;drift 3 south 0 0;drift 4 east 0 6;drift 4 south 7 7;drift 5 west 1 7;drift 5 south 0 0;drift 6 east 0 6;drift 6 south 7 7;drift 7 west 0 7;";
    private static final String TWO = "grid 2 2;thing s ship at 0 0;thing t ship at 0 0;";

    private static int snakePlace(int index) {
        int down = index / 8;
        int over = down % 2 == 0 ? index % 8 : 7 - index % 8;
        return over + 8 * down;
    }

    private static String thingAt(String name, int place) {
        return "thing " + name + " cairn at " + place % 8 + " " + place / 8 + ";";
    }

    /** Two leads that are shut together in step t, and not sooner, stand between a sledge and a hut. */
    private static String wall(int t) {
        return "grid 3 2;drift 0 west 1 1;thing a ship at 0 0;thing b hut at 2 0;lead 1 1 round 1 from 0 for 1;"
                + "lead 1 0 round 30 from " + (t + 1) % 30 + " for 29;lead 2 0 round 7 from " + (t + 1) % 7 + " for 6;";
    }

    /** Behind such leads the flow goes to the hut, which lies on a lead that is always OPEN. */
    private static String sluice(int t) {
        return "grid 4 2;drift 0 west 1 1;drift 0 east 2 2;thing a ship at 0 0;thing b hut at 3 0;lead 1 1 round 1 from 0 for 1;lead 3 0 round 1 from 0 for 1;"
                + "lead 1 0 round 30 from " + (t + 1) % 30 + " for 29;lead 2 0 round 7 from " + (t + 1) % 7 + " for 6;";
    }

    private static String column(String way) {
        StringBuilder s = new StringBuilder();
        for (int down = 0; down < 8; down++) {
            s.append("drift ").append(down).append(' ').append(way).append(" 3 3;");
        }
        return s.toString();
    }

    private static void flow() {
        about = "flow: FLOW of a PLACE; NONE: others";
        PackWeeks x = of("grid 3 5;drift 4 west 2 2;");
        due("flow(0, 0)", x.flow(0, 0), 4);
        due("flow(2, 4)", x.flow(2, 4), 3);
        int[][] others = {{-1, 0}, {0, -1}, {3, 4}, {2, 5}, {8, 0}, {0, 8}, {-8, 1}, {10, -1}, {MIN, 0}, {0, MAX}, {MAX, MIN}};
        for (int[] one : others) {
            due("flow(" + one[0] + ", " + one[1] + ")", x.flow(one[0], one[1]), -1);
        }
        PackWeeks full = of("grid 8 8;drift 7 east 7 7;");
        due("flow(7, 7)", full.flow(7, 7), 1);
        due("flow(8, 7)", full.flow(8, 7), -1);
        due("flow(7, 8)", full.flow(7, 8), -1);
    }

    private static void thing() {
        about = "thing: what 0 to 3; NoSuchElementException: others";
        PackWeeks x = of("grid 2 3;thing b bear at 1 2;thing s ship at 0 0;crew s men 1 biscuit 1;");
        int[][] all = {{2, 1, 2, -1}, {0, 0, 0, 0}};
        for (int thing = 0; thing < 2; thing++) {
            for (int what = 0; what < 4; what++) {
                due("thing(" + thing + ", " + what + ")", x.thing(thing, what), all[thing][what]);
            }
        }
        int[][] others = {{-1, 0}, {2, 0}, {6, 0}, {0, -1}, {0, 4}, {1, 4}, {MIN, 0}, {MAX, 3}, {0, MIN}, {0, MAX}, {-1, -1}};
        for (int[] one : others) {
            dueThrow("thing(" + one[0] + ", " + one[1] + ")", () -> x.thing(one[0], one[1]));
        }
        PackWeeks none = new PackWeeks();
        dueThrow("thing(0, 0) of none", () -> none.thing(0, 0));
        PackWeeks six = of("grid 2 2;" + times(6, "thing # hut at 1 1;"));
        due("thing(5, 1) of six", six.thing(5, 1), 1);
        dueThrow("thing(6, 1) of six", () -> six.thing(6, 1));
    }

    private static void crew() {
        about = "crew: what 0 to 7; NoSuchElementException: others";
        PackWeeks x = of("grid 2 2;thing h hut at 0 0;thing s ship at 1 1;crew s men 30 biscuit 7;");
        int[] all = {1, 30, 7, 0, 0, 1, 1, 0};
        for (int what = 0; what < 8; what++) {
            due("crew(0, " + what + ")", x.crew(0, what), all[what]);
        }
        int[][] others = {{-1, 0}, {1, 0}, {2, 0}, {0, -1}, {0, 8}, {MIN, 0}, {MAX, 7}, {0, MIN}, {0, MAX}};
        for (int[] one : others) {
            dueThrow("crew(" + one[0] + ", " + one[1] + ")", () -> x.crew(one[0], one[1]));
        }
        PackWeeks none = of("grid 2 2;thing s ship at 0 0;");
        dueThrow("crew(0, 0) of none", () -> none.crew(0, 0));
        PackWeeks two = of(TWO + "crew s men 1 biscuit 0;crew t men 2 biscuit 0;");
        due("crew(1, 1) of two", two.crew(1, 1), 2);
        dueThrow("crew(2, 1) of two", () -> two.crew(2, 1));
    }

    private static void where() {
        about = "WHERE a thing is so many steps from now (0 to 200); NONE: others";
        PackWeeks x = of(SNAKE + thingAt("a", 0) + thingAt("b", 56));
        for (int k = 0; k <= 200; k++) {
            due("where(0, " + k + ")", x.where(0, k), snakePlace(Math.min(k, 63)));
        }
        int[][] others = {{0, -1}, {0, 201}, {0, MIN}, {0, MAX}, {-1, 0}, {2, 0}, {6, 0}, {MIN, 0}, {MAX, 0}};
        for (int[] one : others) {
            due("where(" + one[0] + ", " + one[1] + ")", x.where(one[0], one[1]), -1);
        }
        PackWeeks round = of("grid 2 2;drift 0 east 0 0;drift 0 south 1 1;drift 1 west 1 1;drift 1 north 0 0;thing a bear at 1 0;");
        int[] places = {1, 9, 8, 0};
        round.drift(30);
        for (int k = 197; k <= 200; k++) {
            due("where(0, " + k + ") thirty steps on", round.where(0, k), places[(30 + k) % 4]);
        }
        due("where(0, 201) thirty steps on", round.where(0, 201), -1);
        due("where(0, 0) of none", new PackWeeks().where(0, 0), -1);
    }

    private static void meet() {
        about = "MEET: in how many steps two things first are at one PLACE (0: they are); NONE: others, the same, not within 200";
        PackWeeks x = of(SNAKE + thingAt("a", 0) + thingAt("b", 56) + thingAt("c", 1) + thingAt("d", 0));
        due("the longest way", x.meet(0, 1), 63);
        due("the other way round", x.meet(1, 0), 63);
        due("one ahead of it", x.meet(2, 1), 62);
        due("both on their way", x.meet(0, 2), 63);
        due("they are", x.meet(0, 3), 0);
        due("they are", x.meet(3, 0), 0);
        for (int i = 0; i < 4; i++) {
            due("the same", x.meet(i, i), -1);
        }
        int[][] others = {{-1, 0}, {0, -1}, {4, 0}, {0, 4}, {-1, -1}, {4, 4}, {MIN, 0}, {0, MAX}};
        for (int[] one : others) {
            due("meet(" + one[0] + ", " + one[1] + ")", x.meet(one[0], one[1]), -1);
        }
        x.drift(30);
        due("thirty steps on", x.meet(0, 1), 33);
        x.drift(30);
        x.drift(3);
        due("there", x.meet(0, 1), 0);
        PackWeeks still = of("grid 2 2;thing a hut at 0 0;thing b hut at 1 0;");
        due("never", still.meet(0, 1), -1);
        PackWeeks cross = of("grid 2 2;drift 0 east 0 0;drift 0 west 1 1;thing a hut at 0 0;thing b hut at 1 0;");
        due("they pass one another for ever", cross.meet(0, 1), -1);
    }

    private static void reach() {
        about = "REACH: sets out so many steps from now (0 to 60); NONE: others, the same";
        PackWeeks x = of("grid 4 2;thing a ship at 0 0;thing b hut at 3 0;thing c hut at 0 0;");
        due("reach(0, 1, 0)", x.reach(0, 1, 0), 1);
        due("reach(0, 1, 60)", x.reach(0, 1, 60), 61);
        due("reach(0, 2, 0)", x.reach(0, 2, 0), 0);
        due("reach(0, 2, 60)", x.reach(0, 2, 60), 60);
        int[][] others = {{0, 1, -1}, {0, 1, 61}, {0, 1, MIN}, {0, 1, MAX}, {0, 0, 0}, {2, 2, 0}, {-1, 0, 0}, {0, -1, 0}, {3, 0, 0}, {0, 3, 0}, {MIN, 0, 0}, {0, MAX, 0}};
        for (int[] one : others) {
            due("reach(" + one[0] + ", " + one[1] + ", " + one[2] + ")", x.reach(one[0], one[1], one[2]), -1);
        }
        about = "REACH: as soon as it is at its PLACE (at once, hauled or drifted), how many STEPS ended by then";
        due("at once", of("grid 8 2;thing a ship at 0 0;thing b hut at 2 0;").reach(0, 1, 0), 0);
        due("one too far at once", of("grid 8 2;thing a ship at 0 0;thing b hut at 3 0;").reach(0, 1, 0), 1);
        due("drifted", of("grid 8 2;pace 1;drift 0 east 0 1;thing a ship at 0 0;thing b hut at 2 0;").reach(0, 1, 0), 1);
        due("pace 4", of("grid 8 2;pace 4;thing a ship at 0 0;thing b hut at 4 0;").reach(0, 1, 0), 0);
        due("pace 4, one too far", of("grid 8 2;pace 4;thing a ship at 0 0;thing b hut at 5 0;").reach(0, 1, 0), 1);
        due("it need not be hauled: the hut comes", of("grid 4 2;pace 1;drift 0 west 0 3;thing a ship at 0 0;thing b hut at 3 0;").reach(0, 1, 0), 2);
        due("it comes while the sledge waits on a ring of leads",
                of("grid 4 2;drift 0 west 1 3;thing a ship at 0 0;thing b hut at 3 0;lead 1 0 round 1 from 0 for 1;lead 0 1 round 1 from 0 for 1;").reach(0, 1, 0), 3);
        // seven PLACES down each current: one hauled and one drifted a step, the last one hauled
        String along = "drift 3 W 0 7;";
        due("east", of("grid 8 8;pace 1;" + along.replace("W", "east") + thingAt("a", 24) + thingAt("b", 31)).reach(0, 1, 0), 3);
        due("west", of("grid 8 8;pace 1;" + along.replace("W", "west") + thingAt("a", 31) + thingAt("b", 24)).reach(0, 1, 0), 3);
        due("south", of("grid 8 8;pace 1;" + column("south") + thingAt("a", 3) + thingAt("b", 59)).reach(0, 1, 0), 3);
        due("north", of("grid 8 8;pace 1;" + column("north") + thingAt("a", 59) + thingAt("b", 3)).reach(0, 1, 0), 3);
        about = "REACH: within 120; NONE: not";
        int[] soon = {0, 1, 29, 30, 59, 60, 61, 119, 120};
        for (int t : soon) {
            due("hauled in step " + t, of(wall(t)).reach(0, 1, 0), t);
            due("hauled in step " + t + ", set out by then", of(wall(t)).reach(0, 1, Math.min(t, 60)), t);
            if (t < 120) {
                due("drifted, step " + (t + 1), of(sluice(t)).reach(0, 1, 0), t + 1);
            }
        }
        due("hauled in step 121", of(wall(121)).reach(0, 1, 0), -1);
        due("hauled in step 121, set out late", of(wall(121)).reach(0, 1, 60), -1);
        due("drifted, step 121", of(sluice(120)).reach(0, 1, 0), -1);
        due("missed by a step", of(wall(59)).reach(0, 1, 60), -1);
        PackWeeks later = of(wall(121));
        later.drift(1);
        due("120 from then", later.reach(0, 1, 0), 120);
        later.drift(30);
        later.drift(30);
        due("60 from then", later.reach(0, 1, 60), 60);
        due("walls all round", of("grid 3 2;thing a ship at 0 0;thing b hut at 2 0;lead 1 0 round 1 from 0 for 1;lead 1 1 round 1 from 0 for 1;").reach(0, 1, 60), -1);
    }

    private static void setout() {
        about = "SETOUT: the latest step from now (0 to 60) to come no later than setting out now; NONE: likewise";
        int[] soon = {0, 1, 29, 59, 60, 61, 119, 120};
        for (int t : soon) {
            due("for step " + t, of(wall(t)).setout(0, 1), Math.min(t, 60));
        }
        due("for step 121", of(wall(121)).setout(0, 1), -1);
        due("drifted, step 60", of(sluice(59)).setout(0, 1), 59);
        due("drifted, step 61", of(sluice(60)).setout(0, 1), 60);
        due("drifted, step 62", of(sluice(61)).setout(0, 1), 60);
        due("drifted, step 121", of(sluice(120)).setout(0, 1), -1);
        PackWeeks x = of("grid 4 2;thing a ship at 0 0;thing b hut at 3 0;thing c hut at 0 0;");
        due("now", x.setout(0, 1), 0);
        due("it is there", x.setout(0, 2), 0);
        int[][] others = {{0, 0}, {1, 1}, {-1, 0}, {0, -1}, {3, 0}, {0, 3}, {MIN, 0}, {0, MAX}};
        for (int[] one : others) {
            due("setout(" + one[0] + ", " + one[1] + ")", x.setout(one[0], one[1]), -1);
        }
    }

    private static void see() {
        about = "SEEN: so many steps from now on (0 to 40), a bearing 0 to 8, of a thing; false: others";
        PackWeeks x = of("grid 3 3;thing a hut at 1 1;thing b hut at 1 1;");
        int[][] others = {{0, -1, 0}, {0, 41, 0}, {0, MIN, 0}, {0, MAX, 0}, {0, 0, -1}, {0, 0, 9}, {0, 0, MIN}, {0, 0, MAX}, {-1, 0, 0}, {2, 0, 0}, {MIN, 0, 0}, {MAX, 0, 0}};
        for (int[] one : others) {
            due("see(" + one[0] + ", " + one[1] + ", " + one[2] + ")", x.see(one[0], one[1], one[2]), false);
        }
        due("count(10)", x.count(10), 0);
        due("fits()", x.fits(), 0x70707);
        due("see(0, 0, 0)", x.see(0, 0, 0), true);
        due("see(1, 40, 8)", x.see(1, 40, 8), true);
        due("count(10)", x.count(10), 2);
        due("see(0, 0, 0) of no thing", new PackWeeks().see(0, 0, 0), false);
        about = "SEEN: 8 at most; false: 8 are SEEN";
        PackWeeks y = of("grid 3 3;thing a hut at 1 1;");
        for (int i = 1; i <= 8; i++) {
            due("see, " + i, y.see(0, i, 3), true);
            due("count(10)", y.count(10), i);
        }
        due("a ninth", y.see(0, 0, 1), false);
        due("a ninth alike", y.see(0, 8, 3), false);
        due("count(10)", y.count(10), 8);
        due("fits()", y.fits(), 1L << 10);
        about = "SEEN: 0 at its PLACE, 1 north, 2 north and east, .. 8 north and west (straight for 1, 3, 5, 7)";
        int[] bits = {27, 19, 20, 28, 36, 35, 34, 26, 18};
        for (int bearing = 0; bearing <= 8; bearing++) {
            long fit = 0;
            for (int place = 0; place < 64; place++) {
                int across = Integer.signum(place % 8 - 3);
                int along = Integer.signum(place / 8 - 3);
                fit |= 3 + across + 8 * (3 + along) == bits[bearing] ? 1L << place : 0;
            }
            PackWeeks rose = of("grid 8 8;thing a cairn at 3 3;");
            rose.see(0, 0, bearing);
            due("bearing " + bearing, rose.fits(), fit);
        }
    }

    /** Those PLACES of the snake from one on to another one. */
    private static long snakeBits(int first, int last) {
        long bits = 0;
        for (int i = first; i <= last; i++) {
            bits |= 1L << snakePlace(i);
        }
        return bits;
    }

    private static void fits() {
        about = "FITS: PLACES where it can be now, all SEEN being so, as bits (8 a row)";
        for (int over = 2; over <= 8; over++) {
            for (int down = 2; down <= 8; down++) {
                PackWeeks x = of("grid " + over + " " + down + ";drift 0 east 0 1;");
                long all = 0;
                for (int place = 0; place < 64; place++) {
                    all |= place % 8 < over && place / 8 < down ? 1L << place : 0;
                }
                due("nothing SEEN", x.fits(), all);
                x.drift(5);
                due("nothing SEEN, five steps on", x.fits(), all);
            }
        }
        int[] steps = {0, 1, 39, 40};
        for (int k : steps) {
            PackWeeks x = of(SNAKE + thingAt("a", 56));
            x.see(0, k, 0);
            due("at the end in " + k + " steps", x.fits(), snakeBits(63 - k, 63));
        }
        PackWeeks none = of("grid 2 2;thing a cairn at 0 0;");
        none.see(0, 0, 1);
        due("north of the rim: none", none.fits(), 0);
        PackWeeks two = of("grid 2 2;thing a cairn at 0 0;");
        two.see(0, 0, 3);
        two.see(0, 40, 5);
        due("both can't be: none", two.fits(), 0);
        PackWeeks one = of("grid 8 8;thing a cairn at 7 7;");
        one.see(0, 40, 0);
        due("the last bit", one.fits(), Long.MIN_VALUE);
    }

    private static void tells() {
        about = "TELLS: NONE: nothing parts them, none fits, no thing";
        due("no thing", of("grid 8 8;").tells(), -1);
        PackWeeks one = of("grid 2 2;thing a cairn at 0 0;");
        one.see(0, 0, 0);
        due("one fits", one.tells(), -1);
        one.see(0, 0, 3);
        due("none fits", one.tells(), -1);
        PackWeeks two = of("grid 4 2;thing a cairn at 0 0;");
        two.see(0, 0, 3);
        due("three of one bearing from the only thing", two.tells(), -1);
        about = "TELLS: steps from now (0 to 12; thing * 13 + steps)";
        // two PLACES of the snake whose bearings from its end part only when one of them comes to 0 1
        PackWeeks twelve = of(SNAKE + thingAt("a", 56));
        twelve.see(0, 13, 1);
        twelve.see(0, 40, 2);
        due("fits()", twelve.fits(), snakeBits(2, 3));
        due("parted in 12 steps", twelve.tells(), 12);
        PackWeeks thirteen = of(SNAKE + thingAt("a", 56));
        thirteen.see(0, 14, 1);
        thirteen.see(0, 40, 2);
        due("fits()", thirteen.fits(), snakeBits(1, 2));
        due("parted in 13 steps", thirteen.tells(), -1);
        thirteen.drift(1);
        due("parted in 12 from then", thirteen.tells(), 12);
        due("now", of("grid 2 2;thing a cairn at 0 0;").tells(), 0);
        String corner = "grid 3 3;" + times(5, "thing # cairn at 0 0;");
        due("the last of six", of(corner + "thing z cairn at 1 1;").tells(), 5 * 13);
        about = "TELLS: the greatest number of one bearing is the least; of equal ones the first";
        due("of six alike", of(corner + "thing z cairn at 0 2;").tells(), 0);
        due("of two in the middle", of("grid 3 3;thing a cairn at 2 2;thing b cairn at 1 1;thing c cairn at 1 1;").tells(), 13);
        due("sooner or later alike", of("grid 3 3;drift 0 east 0 1;drift 0 west 2 2;thing a cairn at 1 1;").tells(), 0);
    }

    private static int lasts(int biscuit, String law) {
        return of("grid 2 2;thing s ship at 0 0;crew s men 1 biscuit " + biscuit + ";eat " + law + ";").lasts(0);
    }

    private static void lasts() {
        about = "LASTS: how many STEPS a crew has eaten its fill, 0 to 200; NONE: others";
        int[][] ends = {{0, 0}, {1, 1}, {199, 199}, {200, 200}, {201, 200}, {9999, 200}};
        for (int[] end : ends) {
            due("one a step of " + end[0], lasts(end[0], "1"), end[1]);
        }
        due("99 a step of 98", lasts(98, "99"), 0);
        due("99 a step of 99", lasts(99, "100"), 1);
        due("nothing a step of nothing", lasts(0, "0"), 200);
        due("nothing, below 0", lasts(0, "0-5"), 200);
        due("too little in step 0", lasts(0, "step=0"), 0);
        due("too little in step 199", lasts(0, "step=199"), 199);
        due("too little in step 200", lasts(0, "step=200"), 200);
        PackWeeks x = of("grid 2 2;thing s ship at 0 0;crew s men 1 biscuit 0;eat step=200;");
        x.drift(1);
        due("too little in step 200, from step 1 on", x.lasts(0), 199);
        due("lasts(-1)", x.lasts(-1), -1);
        due("lasts(1)", x.lasts(1), -1);
        due("lasts(2)", x.lasts(2), -1);
        due("lasts(MIN)", x.lasts(MIN), -1);
        due("lasts(MAX)", x.lasts(MAX), -1);
        due("lasts(0) of none", new PackWeeks().lasts(0), -1);
        PackWeeks two = of(TWO + "crew s men 1 biscuit 9;crew t men 2 biscuit 9;");
        due("lasts(1) of two", two.lasts(1), 4);
        due("lasts(2) of two", two.lasts(2), -1);
        about = "LASTS: its sledge as it is";
        PackWeeks out = of("grid 2 2;thing s ship at 0 0;crew s men 1 biscuit 12;eat 1+out;");
        due("in", out.lasts(0), 12);
        out.haul(0, 1, 0);
        due("out", out.lasts(0), 6);
    }

    private static int share(int men, int biscuit, int otherMen, int otherBiscuit, String law) {
        return of(TWO + "crew s men " + men + " biscuit " + biscuit + ";crew t men " + otherMen + " biscuit " + otherBiscuit + ";" + law).share();
    }

    private static void share() {
        about = "SHARE. NoSuchElementException: no two crews";
        dueThrow("no crew", () -> new PackWeeks().share());
        dueThrow("one crew", () -> of(TWO + "crew s men 1 biscuit 9;").share());
        about = "SHARE: the lesser one of both LASTS is the greatest; of equal ones the least";
        due("alike", share(1, 10, 1, 10, ""), 0);
        due("one more, no use", share(1, 11, 1, 10, ""), 0);
        due("two more", share(1, 12, 1, 10, ""), 1);
        due("two more of the second one", share(1, 10, 1, 12, ""), -1);
        due("one more of the second one", share(1, 10, 1, 11, ""), 0);
        due("nobody has any", share(1, 0, 1, 0, ""), 0);
        due("too little for both, whatever", share(3, 2, 3, 2, ""), 0);
        due("just enough for a step", share(3, 3, 3, 3, ""), 0);
        due("just enough for a step, all from the first one", share(3, 6, 3, 0, ""), 3);
        due("just enough for a step, all from the second one", share(3, 0, 3, 6, ""), -3);
        due("not enough for a step", share(3, 5, 3, 0, ""), 0);
        about = "SHARE: all it has at most";
        due("all of the first one's", share(1, 20, 2, 0, "eat(crewmen=2)*2;"), 20);
        due("all of the second one's", share(2, 0, 1, 20, "eat(crewmen=2)*2;"), -20);
        due("all but one", share(1, 21, 2, 0, "eat(crewmen=2)*2;"), 20);
        about = "SHARE: LASTS 0 to 200";
        due("200 each", share(1, 9999, 1, 0, ""), 200);
        due("200 each, of the second one's", share(1, 0, 1, 9999, ""), -200);
        due("199 of the other one's", share(1, 9999, 1, 199, ""), 1);
        due("both last 200", share(1, 9999, 1, 200, ""), 0);
        due("400 of both", share(1, 400, 1, 0, ""), 200);
        due("399 of both", share(1, 399, 1, 0, ""), 199);
        due("both last 200 with nothing", share(1, 0, 1, 9, "eat 0;"), 0);
    }

    private static void through() {
        about = "THROUGH from a gap on (their number: out) within so many days (0 to 40); NONE: others";
        PackWeeks none = new PackWeeks();
        due("no gap: out", none.through(0, 0), 1000000);
        due("no gap: out", none.through(0, 40), 1000000);
        due("through(1, 0)", none.through(1, 0), -1);
        String sure = times(5, "gap # opens 10 nips 0;");
        PackWeeks x = of("grid 2 2;" + sure);
        for (int gap = 0; gap <= 5; gap++) {
            int days = 5 - gap;
            due("through(" + gap + ", 0)", x.through(gap, 0), gap == 5 ? 1000000 : 0);
            due("through(" + gap + ", " + days + "), a day for each", x.through(gap, days), 1000000);
            due("a day too few", x.through(gap, days - 1), gap == 5 ? -1 : 0);
            due("through(" + gap + ", 40)", x.through(gap, 40), 1000000);
            due("through(" + gap + ", 41)", x.through(gap, 41), -1);
            due("through(" + gap + ", -1)", x.through(gap, -1), -1);
        }
        int[][] others = {{-1, 0}, {6, 0}, {6, 40}, {MIN, 0}, {MAX, 0}, {0, MIN}, {0, MAX}};
        for (int[] one : others) {
            due("through(" + one[0] + ", " + one[1] + ")", x.through(one[0], one[1]), -1);
        }
        about = "THROUGH: opens by so many of ten (it is 0 wide then), or is one wider (2 at most), nips less 2 * wide (0 at least)";
        due("never opens", of("grid 2 2;gap a opens 0 nips 0;").through(0, 40), 0);
        due("one of ten", of("grid 2 2;gap a opens 1 nips 0;").through(0, 1), 100000);
        due("always opens, always nips", of("grid 2 2;gap a opens 10 nips 10;").through(0, 1), 0);
        // a day to wait: by eight of ten one wide, then eight of ten are lost
        due("two days", of("grid 2 2;gap a opens 10 nips 10;").through(0, 2), 160000);
        // two days to wait: 0.64 two wide, then six of ten are lost
        due("three days", of("grid 2 2;gap a opens 10 nips 10;").through(0, 3), 256000);
        // no wider than two: on the first of four days it is better to wait too, but it may have shut
        due("four days: 0.8 * 0.8 * 0.4, or by 0.2 * 0.8 * 0.2 and 0.8 * 0.2 * 0", of("grid 2 2;gap a opens 10 nips 10;").through(0, 4), 288000);
        due("nips 4, two wide: sure", of("grid 2 2;gap a opens 10 nips 4;").now(0, 2, 40), 1);
        PackWeeks narrow = of("grid 2 2;gap a opens 10 nips 2;");
        due("one day: eight of ten", narrow.through(0, 1), 800000);
        due("two days: eight of ten either way", narrow.through(0, 2), 800000);
        due("three days: 0.8 + 0.2 * 0.8", narrow.through(0, 3), 960000);
    }

    /** The greatest chance ahead of a day, told as the document does; state 3 is shut. */
    private static int chance(int[][] gaps, int gap, int state, int days, int[] known) {
        if (gap == gaps.length) {
            return 1000000;
        }
        if (days == 0) {
            return 0;
        }
        int key = (gap * 4 + state) * 41 + days;
        if (known[key] == 0) {
            int shut = chance(gaps, gap, 3, days - 1, known);
            int wide = state == 3 ? 0 : Math.min(2, state + 1);
            int lost = Math.max(0, gaps[gap][1] - 2 * wide);
            int go = (10 - lost) * chance(gaps, gap + 1, 3, days - 1, known) / 10;
            int open = Math.max(go, chance(gaps, gap, wide, days - 1, known));
            int opens = state == 3 ? gaps[gap][0] : 8;
            known[key] = 1 + (opens * open + (10 - opens) * shut) / 10;
        }
        return known[key] - 1;
    }

    private static void longThrough() {
        about = "THROUGH: within so many days (0 to 40), of five gaps";
        int[][] gaps = {{1, 5}, {2, 9}, {3, 7}, {1, 10}, {4, 3}};
        StringBuilder text = new StringBuilder("grid 2 2;");
        for (int i = 0; i < 5; i++) {
            text.append("gap ").append((char) ('a' + i)).append(" opens ").append(gaps[i][0]).append(" nips ").append(gaps[i][1]).append(';');
        }
        PackWeeks x = of(text.toString());
        int[] known = new int[5 * 4 * 41];
        int[] days = {0, 1, 4, 5, 6, 20, 38, 39, 40};
        for (int gap = 0; gap <= 5; gap++) {
            for (int d : days) {
                due("through(" + gap + ", " + d + ")", x.through(gap, d), chance(gaps, gap, 3, d, known));
            }
        }
        for (int gap = 0; gap < 5; gap++) {
            for (int d : days) {
                for (int wide = 0; wide <= 2; wide++) {
                    int lost = Math.max(0, gaps[gap][1] - 2 * wide);
                    int go = (10 - lost) * chance(gaps, gap + 1, 3, d, known) / 10;
                    due("now(" + gap + ", " + wide + ", " + d + ")", x.now(gap, wide, d), go >= chance(gaps, gap, wide, d, known) ? 1 : 0);
                }
            }
        }
        about = "THROUGH: their number: out, and no less";
        PackWeeks more = new PackWeeks();
        String told = "grid 2 2;";
        for (int n = 0; n <= 5; n++) {
            due("pack", pack(more, told), 0);
            due("out of " + n, more.through(n, 40), 1000000);
            due("out of " + n, more.through(n, 0), 1000000);
            due("beyond", more.through(n + 1, 0), -1);
            due("no day for " + n, more.through(0, 0), n == 0 ? 1000000 : 0);
            due("a day too few for " + n, more.through(0, Math.max(0, n - 1)), n == 0 ? 1000000 : 0);
            due("a day for each of " + n, more.through(0, n), 1000000);
            told += "gap " + (char) ('a' + n) + " opens 10 nips 0;";
        }
    }

    private static void now() {
        about = "now: a gap open so wide (0 to 2), with so many days (0 to 40) behind this one; NONE: others";
        PackWeeks x = of("grid 2 2;gap a opens 5 nips 10;gap b opens 10 nips 0;");
        int[][] others = {{-1, 0, 0}, {2, 0, 0}, {3, 0, 0}, {MIN, 0, 0}, {MAX, 0, 0}, {0, -1, 0}, {0, 3, 0}, {0, MIN, 0}, {0, MAX, 0}, {0, 0, -1}, {0, 0, 41}, {0, 0, MIN}, {0, 0, MAX}};
        for (int[] one : others) {
            due("now(" + one[0] + ", " + one[1] + ", " + one[2] + ")", x.now(one[0], one[1], one[2]), -1);
        }
        due("now(0, 0, 0) of no gap", new PackWeeks().now(0, 0, 0), -1);
        due("now(1, 0, 0), the last one", x.now(1, 0, 0), 1);
        due("now(1, 2, 40)", x.now(1, 2, 40), 1);
        due("now(0, 2, 40)", x.now(0, 2, 40) >= 0 ? 1 : 0, 1);
        about = "now: 1 if that is no less than to wait";
        due("both nothing", x.now(0, 0, 0), 1);
        due("both nothing, a day on", x.now(0, 0, 1), 1);
        due("nothing against a little", x.now(0, 0, 2), 0);
        due("four of ten against 0.8 * 0.4", x.now(0, 2, 2), 1);
        // going: eight of ten; waiting: 0.8 sure, by 0.2 nothing
        due("alike", of("grid 2 2;gap a opens 0 nips 2;").now(0, 0, 40), 1);
        due("alike, a day", of("grid 2 2;gap a opens 0 nips 2;").now(0, 0, 1), 1);
        due("a little more behind", of("grid 2 2;gap a opens 1 nips 2;").now(0, 0, 40), 0);
        due("a little less danger", of("grid 2 2;gap a opens 0 nips 1;").now(0, 0, 40), 1);
        due("a little more danger", of("grid 2 2;gap a opens 0 nips 3;").now(0, 0, 40), 0);
    }

    private static void lost() {
        about = "LOST: in a row of so many days (1 to 30); NONE: others (1: of one day, too)";
        PackWeeks x = of("grid 2 2;");
        int[][] others = {{0, 0}, {0, 1}, {-1, 0}, {31, 0}, {31, 1}, {32, 0}, {MIN, 0}, {MAX, 0}, {5, -1}, {5, 2}, {5, MIN}, {5, MAX}, {1, 2}};
        for (int[] one : others) {
            due("lost(" + one[0] + ", " + one[1] + ")", x.lost(one[0], one[1]), -1);
        }
        due("lost(1, 0)", x.lost(1, 0), 0);
        due("lost(1, 1)", x.lost(1, 1), -1);
        due("lost(2, 0)", x.lost(2, 0), 1);
        due("lost(2, 1)", x.lost(2, 1), 1);
        due("lost(30, 0)", x.lost(30, 0), 5);
        due("lost(30, 1), so that 16 are left at most", x.lost(30, 1), 14);
        due("lost(16, 0)", x.lost(16, 0), 4);
        due("lost(17, 0)", x.lost(17, 0), 5);
        about = "LOST: a look at a day costs the E of look (0 to 99)";
        int[][] ends = {{0, 0}, {1, 1}, {98, 98}, {99, 99}, {100, 99}, {9999, 99}};
        for (int[] end : ends) {
            due("look " + end[0], of("grid 2 2;look " + end[0] + ";").lost(2, 0), end[1]);
        }
        due("below 0", of("grid 2 2;look 0-1;").lost(2, 0), 0);
        due("below 0, of equal ones the first", of("grid 2 2;look 0-1;").lost(30, 1), 1);
        about = "LOST: days 1 and on, the last one's tells nothing";
        due("the first day", of("grid 2 2;look(day=1)*9;").lost(2, 0), 9);
        due("no day 0", of("grid 2 2;look(day=0)*9;").lost(30, 0), 0);
        due("the last day", of("grid 2 2;look(day=30)*9;").lost(30, 0), 0);
        due("the last day but one", of("grid 2 2;look(day=29)*9;").lost(30, 0), 9);
        due("the last day of two", of("grid 2 2;look(day=2)*9;").lost(2, 0), 0);
        PackWeeks three = of("grid 2 2;look(day=2)*9;");
        due("three days", three.lost(3, 0), 9);
        due("three days, of equal ones the first", three.lost(3, 1), 1);
    }

    private static void code() {
        about = "CODE, sign NONE: all together; -2: others, no sign";
        PackWeeks none = new PackWeeks();
        for (int sign = -2; sign <= 6; sign++) {
            due("code(" + sign + ") of none", none.code(sign), -2);
        }
        PackWeeks six = of("grid 2 2;" + times(6, "sign # often 1;"));
        due("code(-1) of six", six.code(-1), 23);
        due("code(5) of six", six.code(5), 5);
        int[] others = {-2, -3, 6, 7, MIN, MAX};
        for (int sign : others) {
            due("code(" + sign + ") of six", six.code(sign), -2);
        }
        about = "CODE: one sign: one short blink";
        PackWeeks one = of("grid 2 2;sign a often 99;");
        due("code(0)", one.code(0), 1);
        due("code(-1)", one.code(-1), 99);
        due("code(1)", one.code(1), -2);
        about = "CODE: the most often has the shortest, of equal ones the first told";
        PackWeeks two = of("grid 2 2;sign a often 1;sign b often 1;");
        due("alike, the first", two.code(0), 1);
        due("alike, the second", two.code(1), 2);
        PackWeeks more = of("grid 2 2;sign a often 1;sign b often 2;");
        due("the less often", more.code(0), 2);
        due("the more often", more.code(1), 1);
        PackWeeks three = of("grid 2 2;sign a often 1;sign b often 99;sign c often 1;");
        due("the most often", three.code(1), 1);
        due("of the others the first", three.code(0), 3);
        due("of the others the second", three.code(2), 4);
        due("together", three.code(-1), 99 + 3 + 4);
        about = "CODE: of the ways with the least together, the one whose rows, from the most often on, are the shortest";
        // 1 3 4 or 2 2 3 for 4 2 2: 18 either way
        PackWeeks ways = of("grid 2 2;sign a often 4;sign b often 2;sign c often 2;");
        due("together", ways.code(-1), 18);
        due("the most often", ways.code(0), 1);
        due("the second", ways.code(1), 3);
        due("the third", ways.code(2), 4);
        // 2 2 4 5 or 2 3 3 4, told from the least often on: 25, and 17 of pairs, either way
        PackWeeks four = of("grid 2 2;sign a often 1;sign b often 2;sign c often 3;sign d often 3;");
        int[] rows = {5, 4, 2, 2};
        PackWeeks pairs = of("grid 2 2;sign a often 1;sign b often 2;sign c often 1;sign d often 2;");
        int[] pairRows = {4, 2, 5, 2};
        due("together", four.code(-1), 25);
        due("together", pairs.code(-1), 17);
        for (int sign = 0; sign < 4; sign++) {
            due("code(" + sign + ")", four.code(sign), rows[sign]);
            due("code(" + sign + ") of pairs", pairs.code(sign), pairRows[sign]);
        }
        PackWeeks less = of("grid 2 2;sign a often 3;sign b often 2;sign c often 2;");
        due("a little less often", less.code(0), 2);
    }

    private static void carry() {
        about = "CARRY, what 0: thousandths, 1: the first load (NONE: none is told); -2: others";
        PackWeeks none = new PackWeeks();
        due("carry(0) of none", none.carry(0), 0);
        due("carry(1) of none", none.carry(1), -1);
        int[] others = {-1, -2, 2, 3, MIN, MAX};
        PackWeeks one = of("grid 2 2;load a worth 999 takes 1;break 0;");
        for (int what : others) {
            due("carry(" + what + ") of none", none.carry(what), -2);
            due("carry(" + what + ")", one.carry(what), -2);
        }
        due("carry(0)", one.carry(0), 999000);
        due("carry(1)", one.carry(1), 0);
        due("worth nothing", of("grid 2 2;load a worth 0 takes 9;").carry(0), 0);
        due("worth nothing, the first", of("grid 2 2;load a worth 0 takes 9;load b worth 0 takes 1;").carry(1), 0);
        about = "CARRY: by the E of break of ten (0 to 10; step 0 and on)";
        int[][] ends = {{0, 1000}, {1, 900}, {9, 100}, {10, 0}, {11, 0}, {9999, 0}};
        for (int[] end : ends) {
            due("break " + end[0], of("grid 2 2;load a worth 1 takes 1;break " + end[0] + ";").carry(0), end[1]);
        }
        due("below 0", of("grid 2 2;load a worth 1 takes 1;break 0-1;").carry(0), 1000);
        due("in step 0", of("grid 2 2;load a worth 1 takes 1;break(step=0)*10;").carry(0), 0);
        due("in step 1, when it is out", of("grid 2 2;load a worth 1 takes 1;break(step=1)*10;").carry(0), 1000);
        due("in the last of nine", of("grid 2 2;load a worth 1 takes 9;break(step=8)*10;").carry(0), 0);
        due("behind the last of nine", of("grid 2 2;load a worth 1 takes 9;break(step=9)*10;").carry(0), 1000);
        String six = "grid 2 2;" + times(6, "load # worth 999 takes 9;");
        due("in the last step of all", of(six + "break(step=53)*10;").carry(0), 5 * 999000);
        due("behind the last step of all", of(six + "break(step=54)*10;").carry(0), 6 * 999000);
        PackWeeks drifted = of("grid 2 2;load a worth 1 takes 1;break(step=0)*4;");
        drifted.drift(30);
        due("steps of its own", drifted.carry(0), 600);
        about = "CARRY: the load to begin with (of equal ones the first)";
        PackWeeks even = of("grid 2 2;" + times(6, "load # worth 5 takes 2;"));
        due("alike", even.carry(1), 0);
        PackWeeks last = of("grid 2 2;" + times(5, "load # worth 5 takes 2;") + "load z worth 6 takes 2;");
        due("the last is worth more", last.carry(1), 5);
        due("all is lost", of("grid 2 2;load a worth 1 takes 1;load b worth 9 takes 1;break 10;").carry(1), 0);
    }

    /** Where a bear is behind each step on a still grid of 2 by 2, by draws; how often at 0 0. */
    private static int bearAtCorner(long seed, int steps) {
        long g = seed;
        int x = 1;
        int y = 1;
        int there = 0;
        for (int i = 0; i < steps; i++) {
            g = (g * 1103515245L + 12345L) % 2147483648L;
            int draw = (int) (g / 65536 % 10);
            y = draw == 0 ? 0 : draw == 2 ? 1 : y;
            x = draw == 1 ? 1 : draw == 3 ? 0 : x;
            there += x == 0 && y == 0 ? 1 : 0;
        }
        return there;
    }

    private static void months() {
        about = "MONTHS by a SEED (0 to 9999) of so many steps (1 to 100), what 0 to 2; NONE: others";
        PackWeeks x = of("grid 2 2;thing b bear at 1 1;thing s ship at 0 0;crew s men 2 biscuit 99;");
        int[][] others = {{-1, 1, 0}, {10000, 1, 0}, {MIN, 1, 0}, {MAX, 1, 0}, {0, 0, 0}, {0, -1, 0}, {0, 101, 0}, {0, MIN, 0}, {0, MAX, 0}, {0, 1, -1}, {0, 1, 3}, {0, 1, MIN}, {0, 1, MAX}};
        for (int[] one : others) {
            due("months(" + one[0] + ", " + one[1] + ", " + one[2] + ")", x.months(one[0], one[1], one[2]), -1);
        }
        int[] seeds = {0, 1, 2, 77, 4096, 9998, 9999};
        int[] steps = {1, 2, 3, 10, 50, 99, 100};
        for (int seed : seeds) {
            for (int n : steps) {
                due("months(" + seed + ", " + n + ", 0)", x.months(seed, n, 0), bearAtCorner(seed, n));
                due("months(" + seed + ", " + n + ", 1)", x.months(seed, n, 1), Math.min(2 * n, 99));
                due("months(" + seed + ", " + n + ", 2)", x.months(seed, n, 2), Math.max(0, n - 49));
            }
        }
        about = "MONTHS: from now on (all is as ahead then)";
        due("the step", x.count(5), 0);
        due("the bear", x.where(0, 0), 9);
        due("biscuit", x.crew(0, 2), 99);
        x.drift(30);
        due("months(3, 19, 2)", x.months(3, 19, 2), 0);
        due("months(3, 20, 2), from step 30 on", x.months(3, 20, 2), 1);
        due("months(3, 20, 1)", x.months(3, 20, 1), 39);
        PackWeeks none = new PackWeeks();
        for (int what = 0; what < 3; what++) {
            due("no thing, no crew", none.months(9999, 100, what), 0);
        }
        about = "MONTHS: how many times a bear is where a ship or a hut is, behind each STEP";
        String[] kinds = {"ship", "hut", "cairn", "bear"};
        for (int i = 0; i < kinds.length; i++) {
            String first = "thing a " + kinds[i] + " at 0 0;";
            due("a bear and a " + kinds[i], of("grid 2 2;" + first + "thing b bear at 1 1;").months(9, 40, 0), i < 2 ? bearAtCorner(9, 40) : 0);
            due("a bear and a " + kinds[i] + " behind it", of("grid 2 2;thing b bear at 1 1;" + first).months(9, 40, 0), i < 2 ? bearAtCorner(9, 40) : 0);
        }
        PackWeeks poor = of("grid 2 2;thing s ship at 0 0;crew s men 1 biscuit 0;eat 0;");
        due("a crew that has none", poor.months(0, 100, 2), 100);
        due("it eats nothing", poor.months(0, 100, 1), 0);
    }

    private static void count() {
        about = "count: what 0 to 12; NONE for another what";
        PackWeeks x = new PackWeeks();
        int[] others = {-1, -2, 13, 14, MIN, MAX};
        for (int what : others) {
            due("count(" + what + ")", x.count(what), -1);
        }
        due("count(0)", x.count(0), 2);
        due("count(12)", x.count(12), 0);
        due("NONE", PackWeeks.NONE, -1);
    }

    public static void main(String[] args) {
        flow();
        thing();
        crew();
        where();
        meet();
        reach();
        setout();
        see();
        fits();
        tells();
        lasts();
        share();
        through();
        longThrough();
        now();
        lost();
        code();
        carry();
        months();
        count();
        finish();
    }
}
