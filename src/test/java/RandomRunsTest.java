/** Many mixed runs of at most 512 calls, always the same ones, compared with the Model call by call. */
public final class RandomRunsTest {
    private static final int RUNS = 4000, CALLS = 512, MOST_TOLD = 20;
    private static final int[] EDGES = {
        Integer.MIN_VALUE, -65537, -2, -1, 4, 5, 8, 13, 14, 60, 65536, Integer.MAX_VALUE,
    };
    private static final int[] ROWS_OF_THINGS = {4, 8, 9, 10, 11, 12};
    private static final int[] WHAT_THEY_TAKE = {0, 5, 6, 13, 8, 9};

    private final Checks checks;
    private final MailRooms x = new MailRooms();
    private final Model model = new Model();
    private final int run;
    private long state;
    private int calls = 0;
    private int mostWorks = 0;

    private RandomRunsTest(Checks checks, int run) {
        this.checks = checks;
        this.run = run;
        this.state = run * 2654435761L + 99;
    }

    public static void main(String[] args) {
        Checks checks = new Checks();
        int mostWorks = 0;
        for (int run = 0; run < RUNS && checks.wrong() < MOST_TOLD; run++) {
            RandomRunsTest test = new RandomRunsTest(checks, run);
            test.go();
            mostWorks = Math.max(mostWorks, test.mostWorks);
        }
        checks.holds("some hand() comes to forty WORKS, not only " + mostWorks, mostWorks >= 40);
        checks.end();
    }

    /** Below the bound, evenly. */
    private int any(int bound) {
        state = state * 6364136223846793005L + 1442695040888963407L;
        return (int) ((state >>> 33) % bound);
    }

    private boolean onceIn(int times) {
        return any(times) == 0;
    }

    /** Mostly below the bound, at times an edge or a number that is wrong. */
    private int some(int bound) {
        return onceIn(30) ? EDGES[any(EDGES.length)] : any(bound);
    }

    private int item() {
        return some(Math.max(1, model.size()));
    }

    private void go() {
        // What a run is mostly about differs from run to run.
        boolean deep = run % 2 == 0;
        int things = 10 + any(20);
        int desks = 4 + any(28);
        int rooms = 1 + any(8);
        int lays = 20 + any(40);
        for (int k = 0; k < things; k++) {
            makeOne(deep);
        }
        for (int k = 0; k < desks; k++) {
            addDesk(rooms, deep);
        }
        for (int k = 0; k < lays; k++) {
            layOne();
        }
        while (calls < 350) {
            callAny(rooms);
            same("refused()", x.refused(), model.refused());
        }
        lookAtDesks();
        while (calls < CALLS) {
            look(any(7), rooms);
        }
    }

    private void same(String call, int got, int want) {
        calls++;
        checks.due("run " + run + ", call " + calls + ": " + call, got, want);
    }

    private void makeOne(boolean deep) {
        int kind = deep && !onceIn(3) ? 5 + any(8) : some(13);
        int n = onceIn(5) ? some(4) : 3;
        same("make(" + kind + ", " + n + ")", x.make(kind, n), model.make(kind, n));
    }

    private void addDesk(int rooms, boolean deep) {
        int room = some(rooms);
        int form = deep && !onceIn(3) ? new int[] {8, 10, 11, 13}[any(4)] : some(14);
        int act = deep && onceIn(2) ? 3 : some(5);
        boolean asks = !onceIn(4);
        same("desk(" + room + ", " + form + ", " + act + ", " + asks + ")",
            x.desk(room, form, act, asks), model.desk(room, form, act, asks));
    }

    /** Mostly a row of things and what it may hold, if some tries find such. */
    private void layOne() {
        int row = item();
        int thing = item();
        for (int k = 0; k < 40 && !onceIn(60) && !mayHold(row, thing); k++) {
            row = item();
            thing = item();
        }
        thing = onceIn(15) ? MailRooms.NONE : thing;
        int i = some(3);
        same("lay(" + row + ", " + i + ", " + thing + ")", x.lay(row, i, thing), model.lay(row, i, thing));
    }

    private boolean mayHold(int row, int thing) {
        for (int k = 0; k < ROWS_OF_THINGS.length; k++) {
            if (model.fits(row, ROWS_OF_THINGS[k]) && model.fits(thing, WHAT_THEY_TAKE[k])) {
                return true;
            }
        }
        return false;
    }

    private void callAny(int rooms) {
        int which = any(20);
        if (which < 9) {
            handOne(rooms);
        } else if (which < 11) {
            layOne();
        } else if (which == 11) {
            makeOne(false);
        } else if (which == 12) {
            addDesk(8, false);
        } else if (which < 15) {
            changeOne(rooms);
        } else if (which == 15) {
            putOne();
        } else {
            look(any(7), rooms);
        }
    }

    private void handOne(int rooms) {
        int item = item();
        int room = onceIn(2) ? 0 : some(rooms);
        int works = x.hand(item, room);
        same("hand(" + item + ", " + room + ")", works, model.hand(item, room));
        same("out()", x.out(), model.out());
        mostWorks = Math.max(mostWorks, works);
    }

    private void changeOne(int rooms) {
        int room = some(rooms);
        int desk = some(4);
        int form = some(14);
        int act = onceIn(2) ? some(5) : 3 + any(2);
        boolean asks = onceIn(2);
        same("change(" + room + ", " + desk + ", " + form + ", " + act + ", " + asks + ")",
            x.change(room, desk, form, act, asks), model.change(room, desk, form, act, asks));
    }

    private void putOne() {
        int item = item();
        int i = some(3);
        int v = onceIn(2) ? some(70000) : EDGES[any(EDGES.length)];
        same("put(" + item + ", " + i + ", " + v + ")", x.put(item, i, v), model.put(item, i, v));
    }

    private void look(int which, int rooms) {
        int item = item();
        int i = some(3);
        int form = some(14);
        int what = some(5);
        switch (which) {
            case 0 -> same("get(" + item + ", " + i + ")", x.get(item, i), model.get(item, i));
            case 1 -> same("at(" + item + ", " + i + ")", x.at(item, i), model.at(item, i));
            case 2 -> same("is(" + item + ", " + form + ")", x.is(item, form), model.is(item, form));
            case 3 -> same("stamps(" + item + ")", x.stamps(item), model.stamps(item));
            case 4 -> same("count(" + what + ")", x.count(what), model.count(what));
            case 5 -> same("refused()", x.refused(), model.refused());
            default -> toldOf(some(rooms), some(4), what);
        }
    }

    /** One answer of each DESK that may be there. */
    private void lookAtDesks() {
        for (int room = 0; room < 8; room++) {
            for (int desk = 0; desk < 4; desk++) {
                toldOf(room, desk, any(5));
            }
        }
    }

    private void toldOf(int room, int desk, int what) {
        same("told(" + room + ", " + desk + ", " + what + ")",
            x.told(room, desk, what), model.told(room, desk, what));
    }
}
