/** Long runs of calls, good and wrong ones, on the class and on the reference, answer by answer. */
public final class RandomRunsTest {
    private static final int RUNS = 400;
    private static final int CALLS = 150;
    private static final int LONG_RUNS = 12;
    /** What an object answers behind these is free. */
    private static final int MOST_CALLS = 512;

    private static final String[] NAMES = {"part", "player", "scene", "pause", "sick", "coat", "pawn", "redeem",
        "town", "night", "knock", "ofPart", "ofPlayer", "ofScene", "ofCoat", "ofTown", "house", "cast", "tour",
        "would", "without", "shareOf", "isSound", "digest"};

    private long seed;
    private int callsMade;
    private final Check check;

    private RandomRunsTest(Check check) {
        this.check = check;
    }

    public static void main(String[] args) {
        Check check = new Check("RandomRunsTest");
        RandomRunsTest test = new RandomRunsTest(check);
        for (int run = 0; run < RUNS; run++) {
            test.go(run, CALLS);
        }
        for (int run = 0; run < LONG_RUNS; run++) {
            test.go(RUNS + run, MOST_CALLS);
        }
        check.end();
    }

    private int below(int bound) {
        seed = seed * 6364136223846793005L + 1442695040888963407L;
        return (int) ((seed >>> 33) % bound);
    }

    /** Mostly a number of the range, now and then one beside it or far from it. */
    private int near(int least, int most) {
        int kind = below(40);
        if (kind == 0) return least - 1;
        if (kind == 1) return most + 1;
        if (kind == 2) return below(2) == 0 ? Integer.MIN_VALUE : Integer.MAX_VALUE;
        return least + below(most - least + 1);
    }

    private void go(int run, int calls) {
        seed = run * 7919L + 17;
        callsMade = 0;
        Doublecoat made = new Doublecoat();
        Reference due = new Reference();
        tellAll(run, made, due);
        while (callsMade < calls - 1 && check.wrongs() == 0) {
            // few new things and many changes and questions, so that runs stay among full states
            int call = below(6) == 0 ? below(11) : below(3) == 0 ? 3 + below(8) : 11 + below(12);
            one(run, call, made, due);
        }
        one(run, 23, made, due);
    }

    private void tellAll(int run, Doublecoat made, Reference due) {
        int[] most = {7, 5, 6};
        for (int call = 0; call < 3; call++) {
            int count = below(most[call] + 1);
            for (int k = 0; k < count; k++) one(run, call, made, due);
        }
        for (int k = below(7); k > 0; k--) one(run, 5, made, due);
        for (int k = below(6); k > 0; k--) one(run, 8, made, due);
        one(run, 23, made, due);
    }

    private void one(int run, int call, Doublecoat made, Reference due) {
        callsMade++;
        int parts = due.house(0);
        int players = due.house(1);
        int scenes = due.house(3);
        int coats = due.house(4);
        int towns = due.house(6);
        int a = 0;
        int b = 0;
        int c = 0;
        switch (call) {
            case 0: a = near(0, below(2)); b = near(0, 3); c = near(0, 9); break;
            case 1: a = near(0, 15) | below(4); b = near(1, 9); c = near(1, 5); break;
            case 2: a = near(0, (1 << parts) - 1) & (below(3) == 0 ? -1 : near(0, 127)); b = near(0, 9); break;
            case 3: a = near(0, scenes); b = near(0, 9); break;
            case 4: a = near(0, players); b = below(3); break;
            case 5: a = near(0, 3); b = near(1, 9); c = near(1, 99); break;
            case 6: case 7: a = near(0, coats); b = near(0, players); break;
            case 8: a = near(0, 99); b = near(0, 99); c = near(0, 999); break;
            case 9: a = near(0, towns); break;
            case 11: a = near(0, parts); b = near(0, 6); break;
            case 12: a = near(0, players); b = near(0, 5); break;
            case 13: a = near(0, scenes); b = near(0, 5); break;
            case 14: a = near(0, coats); b = near(0, 3); break;
            case 15: a = near(0, towns); b = near(0, 3); break;
            case 16: a = near(0, 13); break;
            case 18: a = below(2) == 0 ? near(0, 2000) : near(0, 600); b = near(0, 2); break;
            case 19: a = near(0, (1 << scenes) - 1); break;
            case 20: a = near(0, players); break;
            case 21: a = near(0, 9999); b = near(0, players); break;
            default: break;
        }
        compare(run, call, a, b, c, made, due);
    }

    private void compare(int run, int call, int a, int b, int c, Doublecoat made, Reference due) {
        Object want = Check.answer(() -> ofReference(call, a, b, c, due));
        check.due("run " + run + ": " + NAMES[call] + "(" + a + ", " + b + ", " + c + ")", want,
                () -> ofClass(call, a, b, c, made));
    }

    private static Object ofClass(int call, int a, int b, int c, Doublecoat x) {
        switch (call) {
            case 0: return x.part(a, b, c);
            case 1: return x.player(a, b, c);
            case 2: return x.scene(a, b);
            case 3: return x.pause(a, b);
            case 4: return x.sick(a, b == 1);
            case 5: return x.coat(a, b, c);
            case 6: return x.pawn(a, b);
            case 7: return x.redeem(a, b);
            case 8: return x.town(a, b, c);
            case 9: return x.night(a);
            case 10: return x.knock();
            case 11: return x.ofPart(a, b);
            case 12: return x.ofPlayer(a, b);
            case 13: return x.ofScene(a, b);
            case 14: return x.ofCoat(a, b);
            case 15: return x.ofTown(a, b);
            case 16: return x.house(a);
            case 17: return x.cast();
            case 18: return x.tour(a, b);
            case 19: return x.would(a);
            case 20: return x.without(a);
            case 21: return x.shareOf(a, b);
            case 22: return x.isSound();
            default: return x.digest();
        }
    }

    private static Object ofReference(int call, int a, int b, int c, Reference x) {
        switch (call) {
            case 0: return x.part(a, b, c);
            case 1: return x.player(a, b, c);
            case 2: return x.scene(a, b);
            case 3: return x.pause(a, b);
            case 4: return x.sick(a, b == 1);
            case 5: return x.coat(a, b, c);
            case 6: return x.pawn(a, b);
            case 7: return x.redeem(a, b);
            case 8: return x.town(a, b, c);
            case 9: return x.night(a);
            case 10: return x.knock();
            case 11: return x.ofPart(a, b);
            case 12: return x.ofPlayer(a, b);
            case 13: return x.ofScene(a, b);
            case 14: return x.ofCoat(a, b);
            case 15: return x.ofTown(a, b);
            case 16: return x.house(a);
            case 17: return x.cast();
            case 18: return x.tour(a, b);
            case 19: return x.would(a);
            case 20: return x.without(a);
            case 21: return x.shareOf(a, b);
            case 22: return x.isSound();
            default: return x.digest();
        }
    }
}
