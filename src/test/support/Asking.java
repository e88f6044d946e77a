import java.util.NoSuchElementException;

/** What the tests share: asking, feeding texts, and a picture of all that an object answers. */
class Asking {
    static final int MIN = Integer.MIN_VALUE;
    static final int MAX = Integer.MAX_VALUE;

    /** The promise, or the sentence of the document, that is asked about. */
    static String about = "";
    private static int wrong = 0;
    private static int asked = 0;

    interface Call {
        int get();
    }

    interface Act {
        void on(PackWeeks x);
    }

    static void due(String call, long got, long want) {
        asked++;
        if (got != want) {
            wrong++;
            System.out.println(about + ": " + call + " answered " + got + ", due is " + want);
        }
    }

    static void due(String call, boolean got, boolean want) {
        due(call, got ? 1 : 0, want ? 1 : 0);
    }

    static void due(String call, String got, String want) {
        asked++;
        if (!got.equals(want)) {
            wrong++;
            System.out.println(about + ": " + call + " answered\n  " + got + ", due is\n  " + want);
        }
    }

    static void dueThrow(String call, Call c) {
        asked++;
        try {
            int got = c.get();
            wrong++;
            System.out.println(about + ": " + call + " answered " + got + ", due is NoSuchElementException");
        } catch (NoSuchElementException e) {
            return;
        }
    }

    static void finish() {
        System.out.println(asked + " answers asked, " + wrong + " not as due");
        if (wrong != 0) {
            System.exit(1);
        }
    }

    static int feedText(PackWeeks x, String text) {
        int length = x.count(12);
        for (int i = 0; i < text.length(); i += 24) {
            long[] v = new long[3];
            for (int k = 0; k < 24; k++) {
                v[k / 8] = v[k / 8] << 8 | (i + k < text.length() ? text.charAt(i + k) : 0);
            }
            length = x.feed(v[0], v[1], v[2]);
        }
        return length;
    }

    static int pack(PackWeeks x, String text) {
        feedText(x, text);
        return x.pack();
    }

    static int weeks(PackWeeks x, String text) {
        feedText(x, text);
        return x.weeks();
    }

    static PackWeeks of(String text) {
        PackWeeks x = new PackWeeks();
        due("pack of '" + text + "'", pack(x, text), 0);
        return x;
    }

    static void right(String text) {
        of(text);
    }

    /** The text up to a | is right, what stands behind it is the wrong token. */
    static void fault(int kind, String text) {
        int at = text.indexOf('|');
        String whole = text.substring(0, at) + text.substring(at + 1);
        due("pack of '" + whole + "'", pack(new PackWeeks(), whole), kind + 16 * at);
    }

    static void weekFault(PackWeeks x, int kind, String text) {
        int at = text.indexOf('|');
        String whole = text.substring(0, at) + text.substring(at + 1);
        due("weeks of '" + whole + "'", weeks(x, whole), kind + 16 * at);
    }

    /** A text so many times, with a letter for # that is another one each time. */
    static String times(int n, String text) {
        StringBuilder s = new StringBuilder();
        for (int i = 0; i < n; i++) {
            s.append(text.replace('#', (char) ('a' + i)));
        }
        return s.toString();
    }

    private static String orThrown(Call c) {
        try {
            return c.get() + " ";
        } catch (NoSuchElementException e) {
            return "throws ";
        }
    }

    /** What is told: grid, flows, leads, and what is reckoned of the told alone. */
    private static void drawTold(PackWeeks x, StringBuilder s) {
        for (int what = 0; what <= 12; what++) {
            s.append(x.count(what)).append(' ');
        }
        int over = x.count(0);
        int places = Math.min(20, over * x.count(1));
        for (int p = 0; p < places; p++) {
            s.append(x.flow(p % over, p / over)).append(x.open(p % over, p / over, 1)).append(' ');
        }
        for (int gap = 0; gap <= 5; gap++) {
            s.append(x.through(gap, 7)).append(' ').append(x.now(gap, 0, 5)).append(' ');
        }
        for (int sign = -1; sign < 6; sign++) {
            s.append(x.code(sign)).append(' ');
        }
        s.append(x.lost(12, 0)).append(' ').append(x.lost(12, 1)).append(' ');
        s.append(x.carry(0)).append(' ').append(x.carry(1)).append("| ");
    }

    /** Where all stand now, and what follows of that. */
    private static void drawStand(PackWeeks x, StringBuilder s) {
        for (int i = 0; i < 6; i++) {
            int thing = i;
            for (int k = 0; k < 4; k++) {
                int what = k;
                s.append(orThrown(() -> x.thing(thing, what)));
            }
            s.append(x.where(i, 9)).append(' ').append(x.meet(0, i)).append(' ').append(x.setout(0, i)).append(' ');
        }
        for (int i = 0; i < 2; i++) {
            int crew = i;
            for (int k = 0; k < 8; k++) {
                int what = k;
                s.append(orThrown(() -> x.crew(crew, what)));
            }
            s.append(x.lasts(i)).append(' ');
        }
        s.append(orThrown(x::share)).append(x.fits()).append(' ').append(x.tells()).append(' ');
        for (int what = 0; what < 3; what++) {
            s.append(x.judged(what)).append(' ').append(x.months(77, 20, what)).append(' ');
        }
        s.append("| ");
    }

    private static void drawShort(PackWeeks x, StringBuilder s) {
        s.append(x.count(5)).append(' ').append(x.count(10)).append(' ').append(x.where(0, 0)).append(' ');
        s.append(orThrown(() -> x.crew(0, 2))).append(orThrown(() -> x.crew(0, 5)));
        s.append(orThrown(() -> x.crew(0, 3))).append(orThrown(() -> x.crew(0, 7)));
    }

    /** All that can be seen of an object, what can be undone and the MARKS too; the object is of no use then. */
    static String picture(PackWeeks x) {
        StringBuilder s = new StringBuilder();
        drawTold(x, s);
        drawStand(x, s);
        for (int i = 0; i < 17 && x.undo(); i++) {
            drawShort(x, s);
        }
        s.append("| ");
        for (int mark = 0; mark < 4; mark++) {
            s.append(x.mark(mark, true)).append(' ');
            drawShort(x, s);
        }
        s.append("| ").append(x.weeks()).append(' ').append(x.count(9));
        return s.toString();
    }
}
