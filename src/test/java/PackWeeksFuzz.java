import java.util.NoSuchElementException;
import java.util.Random;

/**
 * Calls with any arguments in any state: nothing is thrown but NoSuchElementException, by thing, crew
 * and share alone; and the same calls on another object give the same answers.
 */
public final class PackWeeksFuzz {
    private static final int[] EDGES = {Integer.MIN_VALUE, -32, -3, -2, -1, 0, 1, 2, 3, 4, 5, 6, 7, 8, 12, 13, 16, 30, 31, 40, 41, 60, 61,
        63, 64, 100, 101, 120, 200, 201, 512, 999, 1000, 9999, 10000, 65536, Integer.MAX_VALUE - 1, Integer.MAX_VALUE};
    private static final String[] PIECES = {"grid 2 2 ;", "grid 8 8 ;", "grid 5 3 ;", "drift 1 east 0 1 ;", "drift 0 south 0 0 ;", "thing a ship at 0 0 ;",
        "thing b ship at 1 1 ;", "thing c bear at 0 1 ;", "thing d hut at 1 0 ;", "thing e cairn at 1 0 ;", "thing f bear at 0 0 ;", "lead 0 1 round 3 from 2 for 1 ;",
        "lead 1 1 round 1 from 0 for 1 ;", "crew a men 3 biscuit 70 ;", "crew b men 30 biscuit 9999 ;", "pace 4 ;", "gap g opens 3 nips 9 ;", "gap h opens 0 nips 0 ;",
        "sign i often 9 ;", "sign j often 9 ;", "sign k often 1 ;", "load l worth 999 takes 9 ;", "load m worth 0 takes 1 ;", "eat crewmen * step - out ;",
        "look ( day * day ) < 9 ;", "break not ( step = 2 ) ;", "drift 30 ;", "haul a 1 0 ;", "haul b 0 0 ;", "lend a 5 ;", "home a ;"};
    private static final String[] SCRAPS = {"(", ")", "not", "and", "or", "<", "=", "+", "-", "*", ";", "0", "1", "9", "9999", "10000", "00000", "step", "day", "out", "crewmen",
        "abcdefgh", "abcdefghi", "#", "~", "\n", " ", "A", "grid", "thing", "eat", "((((((", "not not not not not not", "1<2<3", "1+1*2-3"};

    private static int wrong = 0;

    private static int number(Random r) {
        int k = r.nextInt(10);
        return k < 5 ? r.nextInt(8) : k < 7 ? EDGES[r.nextInt(EDGES.length)] : k < 9 ? r.nextInt(60) : r.nextInt();
    }

    private static String text(Random r) {
        StringBuilder s = new StringBuilder(r.nextInt(4) == 0 ? "" : PIECES[r.nextInt(3)]);
        for (int n = r.nextInt(25); n > 0; n--) {
            s.append(r.nextInt(12) == 0 ? SCRAPS[r.nextInt(SCRAPS.length)] : PIECES[3 + r.nextInt(PIECES.length - 3)]);
            s.append(r.nextInt(3) == 0 ? "" : " ");
        }
        if (r.nextInt(3) == 0) {
            s.append("eat ");
            for (int n = r.nextInt(400); n > 0; n--) {
                s.append(r.nextInt(2) == 0 ? SCRAPS[r.nextInt(SCRAPS.length)] : "1+");
            }
        }
        return s.toString();
    }

    private static long feed(PackWeeks x, Random r) {
        if (r.nextInt(20) == 0) {
            return x.feed(r.nextLong(), r.nextLong(), r.nextLong());
        }
        String s = text(r);
        long last = 0;
        for (int i = 0; i < s.length(); i += 24) {
            long[] v = new long[3];
            for (int k = 0; k < 24; k++) {
                v[k / 8] = v[k / 8] << 8 | (i + k < s.length() ? s.charAt(i + k) : 0);
            }
            last = x.feed(v[0], v[1], v[2]);
        }
        return last;
    }

    private static long call(PackWeeks x, Random r) {
        int a = number(r);
        int b = number(r);
        int c = number(r);
        switch (r.nextInt(34)) {
            case 0: return feed(x, r);
            case 1: return feed(x, r) + x.pack();
            case 2: return feed(x, r) + x.weeks();
            case 3: return x.flow(a, b);
            case 4: return x.open(a, b, c);
            case 5: return x.drift(a);
            case 6: return x.drift(30);
            case 7: return x.haul(a, b, c) ? 1 : 0;
            case 8: return x.haul(a & 1, b & 1, c & 1) ? 1 : 0;
            case 9: return x.lend(a, b);
            case 10: return x.home(a) ? 1 : 0;
            case 11: return x.undo() ? 1 : 0;
            case 12: return x.judged(a);
            case 13: return x.where(a, b);
            case 14: return x.meet(a, b);
            case 15: return x.reach(a, b, c);
            case 16: return x.setout(a, b);
            case 17: return x.see(a, b, c) ? 1 : 0;
            case 18: return x.fits();
            case 19: return x.tells();
            case 20: return x.lasts(a);
            case 21: return x.through(a, b);
            case 22: return x.now(a, b, c);
            case 23: return x.lost(a, b);
            case 24: return x.code(a);
            case 25: return x.carry(a);
            case 26: return x.months(a, b, c);
            case 27: return x.mark(a, (b & 1) == 0) ? 1 : 0;
            case 28: return x.count(a);
            default: return mayThrow(x, r.nextInt(3), a, b);
        }
    }

    private static long mayThrow(PackWeeks x, int which, int a, int b) {
        try {
            return which == 0 ? x.thing(a, b) : which == 1 ? x.crew(a, b) : x.share();
        } catch (NoSuchElementException e) {
            return Long.MIN_VALUE;
        }
    }

    private static void run(long seed) {
        PackWeeks one = new PackWeeks();
        PackWeeks other = new PackWeeks();
        Random first = new Random(seed);
        Random second = new Random(seed);
        for (int i = 0; i < 512; i++) {
            long got;
            try {
                got = call(one, first);
            } catch (RuntimeException e) {
                wrong++;
                System.out.println("seed " + seed + ", call " + i + ": " + e);
                e.printStackTrace(System.out);
                return;
            }
            if (got != call(other, second)) {
                wrong++;
                System.out.println("seed " + seed + ", call " + i + ": another answer of another object");
                return;
            }
        }
    }

    public static void main(String[] args) {
        int runs = args.length > 0 ? Integer.parseInt(args[0]) : 2000;
        for (int seed = 0; seed < runs && wrong < 5; seed++) {
            run(seed);
        }
        System.out.println(runs + " runs, " + wrong + " wrong");
        if (wrong != 0) {
            System.exit(1);
        }
    }
}
