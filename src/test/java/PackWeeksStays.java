import java.util.ArrayList;
import java.util.List;
import java.util.NoSuchElementException;

/** Behind a refused call, a FAULT or a question all stays as it was: two objects, one of them asked more, answer alike. */
public final class PackWeeksStays extends Asking {
    private static final String PACK = "grid 5 4;drift 0 east 0 3;drift 0 south 4 4;drift 1 south 4 4;drift 2 west 1 4;drift 2 north 0 0;drift 1 north 0 0;"
            + "thing fram ship at 0 0;thing b bear at 2 2;thing hope ship at 2 0;thing h hut at 3 3;thing c bear at 1 3;thing d cairn at 4 3;"
            + "lead 2 1 round 3 from 1 for 2;lead 3 1 round 1 from 0 for 1;lead 0 2 round 5 from 4 for 3;lead 1 2 round 30 from 29 for 30;"
            + "crew hope men 3 biscuit 200;crew fram men 4 biscuit 170;pace 3;gap e opens 3 nips 5;gap f opens 9 nips 1;"
            + "sign i often 9;sign j often 4;sign k often 4;load l worth 90 takes 2;load m worth 30 takes 1;load n worth 30 takes 1;"
            + "eat crewmen-out+step*0;look 9-day;break step<3;";
    private static final String WEEKS = "drift 3;haul fram 2 1;lend fram 9;home hope;haul hope 4 0;drift 30;";

    private static final List<String> NAMES = new ArrayList<>();
    private static final List<Act> ACTS = new ArrayList<>();

    private static void act(String name, Act act) {
        NAMES.add(name);
        ACTS.add(act);
    }

    private static PackWeeks told() {
        PackWeeks x = of(PACK);
        due("weeks", weeks(x, WEEKS), 0);
        return x;
    }

    /** States that differ in what can be refused: untouched, amid a step, full of SEEN and of what can be undone. */
    private static PackWeeks stood(int state) {
        PackWeeks x = state == 0 ? new PackWeeks() : told();
        if (state >= 2) {
            x.drift(2);
            due("haul", x.haul(0, 4, 0) || x.haul(0, 4, 1), true);
            x.mark(1, false);
            x.see(3, 2, 8);
        }
        if (state >= 3) {
            for (int i = 0; i < 9; i++) {
                x.drift(i % 2 + 1);
                x.see(0, 5 * i, i);
            }
            for (int i = 0; i < 9; i++) {
                x.drift(1);
            }
            x.mark(0, false);
            x.undo();
            x.haul(1, x.thing(2, 1), x.thing(2, 2));
            x.mark(3, false);
        }
        if (state >= 4) {
            x.mark(1, true);
        }
        return x;
    }

    private static void quietly(Call c) {
        try {
            c.get();
        } catch (NoSuchElementException e) {
            return;
        }
    }

    private static void refusedCalls() {
        int[] beyond = {-1, -2, 6, 64, MIN, MAX};
        for (int k : beyond) {
            act("flow(" + k + ", 0)", x -> due("it", x.flow(k, 0), -1));
            act("flow(0, " + k + ")", x -> due("it", x.flow(0, k), -1));
            act("open(" + k + ", 0, 0)", x -> due("it", x.open(k, 0, 0), -1));
            act("open(0, " + k + ", 0)", x -> due("it", x.open(0, k, 0), -1));
            act("thing(" + k + ", 0)", x -> dueThrow("it", () -> x.thing(k, 0)));
            act("thing(0, " + k + ")", x -> dueThrow("it", () -> x.thing(0, k)));
            act("crew(" + k + ", 0)", x -> dueThrow("it", () -> x.crew(k, 0)));
            act("haul(" + k + ", 1, 1)", x -> due("it", x.haul(k, 1, 1), false));
            act("haul(0, " + k + ", 1)", x -> due("it", x.haul(0, k, 1), false));
            act("haul(0, 1, " + k + ")", x -> due("it", x.haul(0, 1, k), false));
            act("lend(" + k + ", 1)", x -> due("it", x.lend(k, 1), -1));
            act("home(" + k + ")", x -> due("it", x.home(k), false));
            act("where(" + k + ", 0)", x -> due("it", x.where(k, 0), -1));
            act("meet(" + k + ", 0)", x -> due("it", x.meet(k, 0), -1));
            act("reach(" + k + ", 0, 0)", x -> due("it", x.reach(k, 0, 0), -1));
            act("setout(0, " + k + ")", x -> due("it", x.setout(0, k), -1));
            act("see(" + k + ", 0, 0)", x -> due("it", x.see(k, 0, 0), false));
            act("lasts(" + k + ")", x -> due("it", x.lasts(k), -1));
            act("now(" + k + ", 0, 0)", x -> due("it", x.now(k, 0, 0), -1));
            act("mark(" + k + ", false)", x -> due("it", x.mark(k, false), false));
            act("mark(" + k + ", true)", x -> due("it", x.mark(k, true), false));
            act("carry(" + k + ")", x -> due("it", x.carry(k), -2));
            act("judged(" + k + ")", x -> due("it", x.judged(k), -2));
        }
        int[] numbers = {0, -1, 31, 41, 1000, 10000, MIN, MAX};
        for (int k : numbers) {
            act("drift(" + k + ")", x -> due("it", x.drift(k), -1));
        }
        act("lend(0, 0)", x -> due("it", x.lend(0, 0), -1));
        act("lend(1, 1000)", x -> due("it", x.lend(1, 1000), -1));
        act("see(0, 41, 0)", x -> due("it", x.see(0, 41, 0), false));
        act("see(0, -1, 0)", x -> due("it", x.see(0, -1, 0), false));
        act("see(0, 0, 9)", x -> due("it", x.see(0, 0, 9), false));
        act("see(0, 0, -1)", x -> due("it", x.see(0, 0, -1), false));
        act("mark(2, true), nothing on it", x -> due("it", x.mark(2, true), false));
        act("months(10000, 1, 0)", x -> due("it", x.months(10000, 1, 0), -1));
        act("months(0, 101, 0)", x -> due("it", x.months(0, 101, 0), -1));
        act("lost(31, 0)", x -> due("it", x.lost(31, 0), -1));
        act("code(-2)", x -> due("it", x.code(-2), -2));
        act("count(13)", x -> due("it", x.count(13), -1));
        act("home(1) of a sledge that is in, or away", x -> due("it", x.home(1), false));
        act("feed of nothing", x -> due("it", x.feed(0, 0x0102030405060708L, -1), 0));
    }

    private static void faults() {
        String[] packs = {"", "grid", "grid 5 4", "grid 1 4;", "|", "drift 0 east 0 0;", "grid 8 8;thing z ship at 7 7;crew z men 9 biscuit 9;pace 1;eat 99;look 99;break 10;rest",
            "grid 2 2;drift 0 west 0 1;drift 1 west 0 2;", "grid 5 4;lead 0 0 round 1 from 0 for 1;lead 0 0 round 1 from 0 for 1;",
            "grid 5 4;gap e opens 1 nips 1;gap f opens 1 nips 1;gap g opens 1 nips 1;gap e", "grid 5 4;eat ((((((1))))));", "grid 5 4;sign i often 100;"};
        for (String text : packs) {
            act("a FAULT of pack: " + text, x -> due("it", pack(x, text) != 0, true));
        }
        String[] weeks = {"drift", "drift 0;", "drift 30;drift 31;", times(25, "drift 1;"), "haul nobody 0 0;", "home home;", "#", "drift 2;lend fram 1000;", "grid 2 2;"};
        for (String text : weeks) {
            act("a FAULT of weeks: " + text, x -> due("it", weeks(x, text) != 0, true));
        }
    }

    private static void questions() {
        act("flow and open", x -> {
            x.flow(1, 1);
            x.open(1, 1, 200);
        });
        act("thing and crew", x -> {
            quietly(() -> x.thing(0, 3));
            quietly(() -> x.crew(0, 7));
        });
        act("where and meet", x -> {
            x.where(0, 200);
            x.meet(0, 1);
        });
        act("reach and setout", x -> {
            x.reach(0, 3, 60);
            x.setout(0, 3);
        });
        act("fits and tells", x -> {
            x.fits();
            x.tells();
        });
        act("lasts and share", x -> {
            x.lasts(0);
            quietly(x::share);
        });
        act("through and now", x -> {
            x.through(0, 40);
            x.now(0, 2, 40);
        });
        act("lost, code and carry", x -> {
            x.lost(30, 1);
            x.code(0);
            x.code(-1);
            x.carry(1);
        });
        act("months and judged", x -> {
            x.months(9999, 100, 0);
            x.judged(2);
            x.months(0, 1, 2);
        });
        act("count", x -> x.count(5));
        act("drift and undo, when no more than 15 can be", x -> {
            if (x.count(11) < 16) {
                x.drift(30);
                x.undo();
            }
        });
    }

    public static void main(String[] args) {
        refusedCalls();
        faults();
        questions();
        for (int state = 0; state <= 4; state++) {
            about = "state " + state;
            String as = picture(stood(state));
            for (int i = 0; i < ACTS.size(); i++) {
                PackWeeks x = stood(state);
                about = "state " + state + ", behind " + NAMES.get(i);
                ACTS.get(i).on(x);
                due("all of it", picture(x), as);
            }
        }
        about = "full of SEEN, amid a step";
        PackWeeks full = stood(3);
        due("count(10)", full.count(10), 8);
        due("count(11)", full.count(11), 16);
        due("a ninth", full.see(0, 0, 0), false);
        due("hauled already", full.haul(1, 0, 0), false);
        due("all of it", picture(full), picture(stood(3)));
        finish();
    }
}
