/** The boundary cases of all methods: what a refused call leaves, and which exception comes where several apply. */
final class RefusedCases extends Cases {
    RefusedCases(Check check) {
        super(check);
    }

    @Override
    void all() {
        callsOfAnObject();
        changesNothing();
        argumentBeforeState();
        indexBeforeArgument();
        indexBeforeState();
    }

    private void callsOfAnObject() {
        check.says("What it is",
                "An object is used for at most 512 calls after it has been made; what later calls answer is free.");
        Doublecoat x = new Doublecoat();
        for (int n = 1; n <= 512; n++) {
            due(x, n, y -> y.knock());
        }
        // 512 calls in all, the last ones as dear as they can be
        Doublecoat dear = full();
        int told = 7 + 5 + 6 + 6 + 5 + 5;
        String cast = dear.cast();
        for (int k = told + 1; k < 510; k++) dear.pause(k % 6, k % 10);
        dear.digest();
        due(full(), cast, y -> y.cast());
        Doublecoat same = full();
        for (int scene = 0; scene < 6; scene++) same.pause(scene, last(scene, told));
        long due = same.digest();
        due(dear, due, y -> y.digest());
    }

    private static int last(int scene, int told) {
        int last = 0;
        for (int k = told + 1; k < 510; k++) last = k % 6 == scene ? k % 10 : last;
        return last;
    }

    private void changesNothing() {
        check.says("Description", "A method that throws an exception changes nothing.");
        refused(ARGUMENT, Cases::full, x -> x.part(4, 4, 10));
        refused(STATE, Cases::full, x -> x.part(1, 1, 1));
        refused(ARGUMENT, Cases::full, x -> x.player(16, 10, 6));
        refused(STATE, Cases::full, x -> x.player(1, 1, 1));
        refused(ARGUMENT, Cases::full, x -> x.scene(0, 10));
        refused(STATE, Cases::full, x -> x.scene(127, 0));
        refused(INDEX, Cases::full, x -> x.pause(6, 0));
        refused(ARGUMENT, Cases::full, x -> x.pause(5, 10));
        refused(INDEX, Cases::full, x -> x.sick(5, true));
        refused(INDEX, Cases::full, x -> x.sick(-1, true));
        refused(ARGUMENT, Cases::full, x -> x.coat(4, 10, 100));
        refused(STATE, Cases::full, x -> x.coat(1, 1, 1));
        refused(INDEX, Cases::full, x -> x.pawn(6, 0));
        refused(INDEX, Cases::full, x -> x.pawn(1, 5));
        refused(STATE, Cases::full, x -> x.pawn(5, 4));
        refused(INDEX, Cases::full, x -> x.redeem(6, 4));
        refused(INDEX, Cases::full, x -> x.redeem(0, 5));
        refused(STATE, Cases::full, x -> x.redeem(1, 4));
        refused(STATE, RefusedCases::poor, x -> x.redeem(0, 0));
        refused(ARGUMENT, Cases::full, x -> x.town(100, 100, 1000));
        refused(STATE, Cases::full, x -> x.town(1, 1, 1));
        refused(INDEX, Cases::full, x -> x.night(5));
        refused(STATE, RefusedCases::allSick, x -> x.night(4));
        refused(STATE, () -> with(7, 5, 0, 6, 5), x -> x.night(4));
        refused(INDEX, Cases::full, x -> x.ofPart(7, 0));
        refused(ARGUMENT, Cases::full, x -> x.ofPart(0, 7));
        refused(INDEX, Cases::full, x -> x.ofPlayer(5, 0));
        refused(ARGUMENT, Cases::full, x -> x.ofPlayer(0, 6));
        refused(INDEX, Cases::full, x -> x.ofScene(6, 0));
        refused(ARGUMENT, Cases::full, x -> x.ofScene(0, 6));
        refused(INDEX, Cases::full, x -> x.ofCoat(6, 0));
        refused(ARGUMENT, Cases::full, x -> x.ofCoat(0, 4));
        refused(INDEX, Cases::full, x -> x.ofTown(5, 0));
        refused(ARGUMENT, Cases::full, x -> x.ofTown(0, 4));
        refused(ARGUMENT, Cases::full, x -> x.house(14));
        refused(ARGUMENT, Cases::full, x -> x.tour(2001, 0));
        refused(ARGUMENT, Cases::full, x -> x.tour(2000, 3));
        refused(ARGUMENT, Cases::full, x -> x.would(64));
        refused(INDEX, Cases::full, x -> x.without(5));
        refused(INDEX, Cases::full, x -> x.shareOf(0, 5));
        refused(ARGUMENT, Cases::full, x -> x.shareOf(10000, 4));
    }

    private static Doublecoat poor() {
        Doublecoat x = with(1, 1, 1, 1, 0);
        x.pawn(0, 0);
        return x;
    }

    private static Doublecoat allSick() {
        Doublecoat x = full();
        for (int player = 0; player < 5; player++) x.sick(player, true);
        return x;
    }

    // ---- which exception comes where several apply

    private static final String FIRST = "If several exceptions apply, the one that is named first is thrown.";

    private void first(String thrown, Make fresh, Call call) {
        due(fresh.make(), "throws." + thrown, call);
    }

    private void argumentBeforeState() {
        check.says("Description", FIRST);
        Make full = Cases::full;
        for (int wrong : new int[] {-1, 4}) {
            first(ARGUMENT, full, x -> x.part(wrong, 0, 0));
            first(ARGUMENT, full, x -> x.part(0, wrong, 0));
            first(ARGUMENT, full, x -> x.coat(wrong, 1, 1));
        }
        for (int wrong : new int[] {-1, 10}) {
            first(ARGUMENT, full, x -> x.part(0, 0, wrong));
            first(ARGUMENT, full, x -> x.player(1, wrong, 1));
            first(ARGUMENT, full, x -> x.scene(1, wrong));
            first(ARGUMENT, full, x -> x.coat(0, wrong, 1));
        }
        for (int wrong : new int[] {-1, 16}) {
            first(ARGUMENT, full, x -> x.player(wrong, 1, 1));
        }
        for (int wrong : new int[] {0, 6}) {
            first(ARGUMENT, full, x -> x.player(1, 1, wrong));
        }
        for (int wrong : new int[] {-1, 0, 128}) {
            first(ARGUMENT, full, x -> x.scene(wrong, 0));
        }
        for (int wrong : new int[] {-1, 100}) {
            first(ARGUMENT, full, x -> x.town(wrong, 0, 0));
            first(ARGUMENT, full, x -> x.town(0, wrong, 0));
            first(ARGUMENT, full, x -> x.coat(0, 1, wrong));
        }
        for (int wrong : new int[] {-1, 1000}) {
            first(ARGUMENT, full, x -> x.town(0, 0, wrong));
        }
        first(ARGUMENT, full, x -> x.player(1, 0, 1));
        first(ARGUMENT, full, x -> x.coat(0, 0, 1));
        first(ARGUMENT, full, x -> x.coat(0, 1, 0));
        // no part is there, so that each set is wrong
        first(ARGUMENT, Doublecoat::new, x -> x.scene(1, 10));
    }

    private void indexBeforeArgument() {
        check.says("Description", FIRST);
        for (Make fresh : new Make[] {Doublecoat::new, Cases::full}) {
            for (int number : new int[] {-1, 7, LEAST, MOST}) {
                for (int wrong : new int[] {-1, 14, 10000, LEAST, MOST}) {
                    first(INDEX, fresh, x -> x.pause(number, wrong));
                    first(INDEX, fresh, x -> x.ofPart(number, wrong));
                    first(INDEX, fresh, x -> x.ofPlayer(number, wrong));
                    first(INDEX, fresh, x -> x.ofScene(number, wrong));
                    first(INDEX, fresh, x -> x.ofCoat(number, wrong));
                    first(INDEX, fresh, x -> x.ofTown(number, wrong));
                    first(INDEX, fresh, x -> x.shareOf(wrong == 14 ? 10000 : wrong, number));
                }
            }
        }
        first(INDEX, Doublecoat::new, x -> x.pause(0, 10));
        first(INDEX, Doublecoat::new, x -> x.shareOf(-1, 0));
        first(INDEX, Doublecoat::new, x -> x.ofPart(0, 7));
        first(INDEX, Doublecoat::new, x -> x.ofPlayer(0, 6));
        first(INDEX, Doublecoat::new, x -> x.ofScene(0, 6));
        first(INDEX, Doublecoat::new, x -> x.ofCoat(0, 4));
        first(INDEX, Doublecoat::new, x -> x.ofTown(0, 4));
    }

    private void indexBeforeState() {
        check.says("Description", FIRST);
        // coat 5 is pawned, coat 1 is not
        for (int number : new int[] {-1, 5, LEAST, MOST}) {
            first(INDEX, Cases::full, x -> x.pawn(5, number));
            first(INDEX, Cases::full, x -> x.redeem(1, number));
            first(INDEX, RefusedCases::allSick, x -> x.night(number));
            first(INDEX, () -> with(7, 5, 0, 6, 5), x -> x.night(number));
        }
        for (int number : new int[] {-1, 6, LEAST, MOST}) {
            first(INDEX, Cases::full, x -> x.pawn(number, 5));
            first(INDEX, Cases::full, x -> x.redeem(number, 0));
            first(INDEX, RefusedCases::poor, x -> x.redeem(number, 0));
        }
        first(INDEX, Doublecoat::new, x -> x.night(0));
    }
}
