/** What the tests of the boundary cases have in common: objects to begin with, and how a boundary is looked at. */
abstract class Cases {
    static final int NONE = -1;
    static final int LEAST = Integer.MIN_VALUE;
    static final int MOST = Integer.MAX_VALUE;
    static final String INDEX = "IndexOutOfBoundsException";
    static final String ARGUMENT = "IllegalArgumentException";
    static final String STATE = "IllegalStateException";

    /** Numbers that are far from all ranges, some of which look near when bits are lost. */
    private static final int[] FAR = {LEAST, LEAST + 1, -65536, -256, -128, -64, -32, -16, -2, 10000, 65536, 1 << 24,
        1 << 30, MOST - 1, MOST};

    interface Make {
        Doublecoat make();
    }

    interface MakeOf {
        Doublecoat make(int there);
    }

    interface Told {
        Object with(Doublecoat x, int value);
    }

    interface Call {
        Object on(Doublecoat x);
    }

    final Check check;

    Cases(Check check) {
        this.check = check;
    }

    abstract void all();

    // ---- objects to begin with

    /** So many of each, all alike: a player can play each part, all scenes are of part 0. */
    static Doublecoat with(int parts, int players, int scenes, int coats, int towns) {
        Doublecoat x = new Doublecoat();
        for (int k = 0; k < parts; k++) x.part(0, 0, 0);
        for (int k = 0; k < players; k++) x.player(1, 5, 1);
        for (int k = 0; k < scenes; k++) x.scene(1, 0);
        for (int k = 0; k < coats; k++) x.coat(0, 5, 10);
        for (int k = 0; k < towns; k++) x.town(1, 1, 10);
        return x;
    }

    static Doublecoat withParts(int there) {
        return with(there, 0, 0, 0, 0);
    }

    static Doublecoat withPlayers(int there) {
        return with(0, there, 0, 0, 0);
    }

    static Doublecoat withScenes(int there) {
        return with(1, 0, there, 0, 0);
    }

    static Doublecoat withCoats(int there) {
        return with(0, 1, 0, there, 0);
    }

    static Doublecoat withTowns(int there) {
        return with(1, 1, 1, 0, there);
    }

    /** As many of each as there may be, with a best cast, nights, purses and pawned coats behind it. */
    static Doublecoat full() {
        Doublecoat x = new Doublecoat();
        for (int k = 0; k < 7; k++) x.part(k % 4, k % 3, k);
        for (int k = 0; k < 5; k++) x.player(15 - k, 3 + k, k + 1);
        for (int k = 0; k < 6; k++) x.scene(3 << k, 9 - k);
        for (int k = 0; k < 6; k++) x.coat(3 - k % 2, 3 + k, 99 - 18 * k);
        for (int k = 0; k < 5; k++) x.town(9 * k, 40 - 8 * k, 111 * k + 7);
        x.pawn(0, 4);
        x.pawn(5, 0);
        x.night(3);
        x.night(0);
        x.knock();
        return x;
    }

    /** One part for each player, all in one scene, so that each player has a part; shares as told. */
    static Doublecoat withShares(int... shares) {
        Doublecoat x = new Doublecoat();
        int all = 0;
        for (int share : shares) {
            all |= 1 << x.part(0, 0, 0);
            x.player(1, 5, share);
        }
        x.scene(all, 0);
        return x;
    }

    /** Parts of rank 0 and of these voices and changes, {voice, change} each. */
    static Doublecoat withParts(int[]... told) {
        Doublecoat x = new Doublecoat();
        for (int[] part : told) x.part(part[0], 0, part[1]);
        return x;
    }

    static void addPlayers(Doublecoat x, int... voices) {
        for (int set : voices) x.player(set, 5, 1);
    }

    static void addScenes(Doublecoat x, int... told) {
        for (int k = 0; k < told.length; k += 2) x.scene(told[k], told[k + 1]);
    }

    // ---- how a boundary is looked at

    void due(Doublecoat x, Object want, Call call) {
        check.due(want, () -> call.on(x));
    }

    void dueRow(Doublecoat x, int[] want, Told asked) {
        for (int k = 0; k < want.length; k++) {
            int value = k;
            check.due(want[k], () -> asked.with(x, value));
        }
    }

    /** A refused call throws this, and leaves the object as one that was not asked so. */
    void refused(String thrown, Make fresh, Call call) {
        Doublecoat asked = fresh.make();
        check.due("throws." + thrown, () -> call.on(asked));
        String due = State.of(fresh.make());
        check.due(due, () -> State.of(asked));
    }

    /** Each number of the range is taken, and answered as told; the first ones beside it and far ones are refused. */
    void range(int least, int most, Make fresh, Told call, Told asked) {
        for (int k = least; k <= most; k++) {
            int value = k;
            Doublecoat x = fresh.make();
            call.with(x, value);
            check.due(value, () -> asked.with(x, value));
        }
        beside(ARGUMENT, least, most, fresh, call);
    }

    /** The first numbers beside the range are refused, and far ones. */
    void beside(String thrown, int least, int most, Make fresh, Told call) {
        refused(thrown, fresh, x -> call.with(x, least - 1));
        refused(thrown, fresh, x -> call.with(x, most + 1));
        for (int value : FAR) {
            if (value < least || value > most) {
                check.due("throws." + thrown, () -> call.with(fresh.make(), value));
            }
        }
    }

    /** From none there to as many as there may be: each number of one is taken, and none beside it. */
    void numbers(int most, MakeOf fresh, Told call) {
        for (int k = 0; k <= most; k++) {
            int there = k;
            for (int number = 0; number < there; number++) {
                int taken = number;
                check.due(true, () -> call.with(fresh.make(there), taken) != null);
            }
            beside(INDEX, 0, there - 1, () -> fresh.make(there), call);
        }
    }

    /** Each one gets the next number, until there are as many as there may be. */
    void fills(int most, Make fresh, Call call) {
        Doublecoat x = fresh.make();
        for (int number = 0; number < most; number++) {
            check.due(number, () -> call.on(x));
        }
        Make filled = () -> {
            Doublecoat y = fresh.make();
            for (int number = 0; number < most; number++) call.on(y);
            return y;
        };
        refused(STATE, filled, call);
    }
}
