/** The boundary cases of the Description: how a scene is filled and dressed. */
final class SceneCases extends Cases {
    private static final String PLACE = "Description";

    SceneCases(Check check) {
        super(check);
    }

    @Override
    void all() {
        filledByNobody();
        filledByAll();
        filledByChange();
        lackOfNone();
        lackOfAll();
        lackGreatest();
        lackSmallest();
        coats();
        fitsByRank();
        fitsBySize();
        fitsIfNotPawned();
        dressWithCoatsOfTheirOwn();
        dressLeast();
        dressByTheBestCast();
        dressOrNone();
    }

    private void says(String words) {
        check.says(PLACE, words);
    }

    /** Parts of these voices, all in one scene. */
    private static Doublecoat scene(int... voices) {
        Doublecoat x = new Doublecoat();
        for (int voice : voices) x.part(voice, 0, 0);
        x.scene((1 << voices.length) - 1, 0);
        return x;
    }

    /** FILLED, LACK and EXCESS of a scene. */
    private void dueFilled(Doublecoat x, int scene, int filled, int lack, int excess) {
        due(x, filled, y -> y.ofScene(scene, 2));
        due(x, lack, y -> y.ofScene(scene, 3));
        due(x, excess, y -> y.ofScene(scene, 4));
    }

    // ---- filled

    private static final String FILLED = "FILLED of a SCENE: how many of its PARTS at most can have a PLAYER at once, "
            + "each one that can play it, no PLAYER two.";

    private void filledByNobody() {
        says(FILLED);
        due(scene(0), 0, x -> x.ofScene(0, 2));
        due(scene(0, 1, 2, 3, 0, 1, 2), 0, x -> x.ofScene(0, 2));
        Doublecoat x = scene(0, 0);
        addPlayers(x, 14, 0);
        due(x, 0, y -> y.ofScene(0, 2));
        addPlayers(x, 1);
        due(x, 1, y -> y.ofScene(0, 2));
        x.sick(2, true);
        due(x, 0, y -> y.ofScene(0, 2));
    }

    private void filledByAll() {
        says(FILLED);
        // no player two
        for (int k = 0; k <= 5; k++) {
            int there = k;
            Doublecoat x = scene(0, 0, 0, 0, 0, 0, 0);
            for (int n = 0; n < there; n++) addPlayers(x, 15);
            due(x, there, y -> y.ofScene(0, 2));
        }
        // no part two
        Doublecoat one = scene(3);
        addPlayers(one, 15, 15, 15, 15, 8);
        due(one, 1, y -> y.ofScene(0, 2));
        Doublecoat five = scene(0, 0, 0, 0, 0);
        addPlayers(five, 1, 1, 1, 1, 1);
        due(five, 5, y -> y.ofScene(0, 2));
    }

    private void filledByChange() {
        says(FILLED);
        // each has to give way to the next one
        Doublecoat x = scene(0, 1, 2, 3);
        addPlayers(x, 3, 6, 12, 1);
        due(x, 4, y -> y.ofScene(0, 2));
        Doublecoat back = scene(3, 2, 1, 0);
        addPlayers(back, 1, 12, 6, 3);
        due(back, 4, y -> y.ofScene(0, 2));
        // three parts for the two players who have that voice, and another one who has not
        Doublecoat three = scene(0, 0, 0, 1);
        addPlayers(three, 3, 1, 2);
        due(three, 3, y -> y.ofScene(0, 2));
        three.sick(2, true);
        due(three, 2, y -> y.ofScene(0, 2));
    }

    // ---- lack

    private static final String LACK = "LACK of a SCENE: of all sets of its PARTS (the empty one, too) that with the "
            + "greatest EXCESS: how many it has, less how many PLAYERS can play one of them (of several that with the "
            + "smallest number).";

    private void lackOfNone() {
        says(LACK);
        Doublecoat x = scene(0);
        addPlayers(x, 1, 1, 1, 1, 1);
        dueFilled(x, 0, 1, 0, 0);
        Doublecoat y = scene(0);
        addPlayers(y, 1);
        dueFilled(y, 0, 1, 0, 0);
        Doublecoat five = scene(0, 1, 2, 3, 0);
        addPlayers(five, 1, 2, 4, 8, 1);
        dueFilled(five, 0, 5, 0, 0);
    }

    private void lackOfAll() {
        says(LACK);
        dueFilled(scene(0), 0, 0, 1, 1);
        dueFilled(scene(0, 1, 2, 3, 0, 1, 2), 0, 0, 127, 7);
        Doublecoat x = withParts(7);
        x.scene(64, 0);
        x.scene(66, 0);
        dueFilled(x, 0, 0, 64, 1);
        dueFilled(x, 1, 0, 66, 2);
        Doublecoat most = scene(0, 0, 0, 0, 0, 0, 0);
        addPlayers(most, 1, 1, 1, 1, 1);
        dueFilled(most, 0, 5, 127, 2);
        most.sick(0, true);
        dueFilled(most, 0, 4, 127, 3);
    }

    private void lackGreatest() {
        says(LACK);
        // parts of voice 0 lack one player, those of voice 1 two, and both together three
        Doublecoat x = scene(0, 0, 1, 1, 1);
        addPlayers(x, 1, 2);
        dueFilled(x, 0, 2, 31, 3);
        // one more for voice 0: nothing lacks there, and the empty set of them is the smaller one
        addPlayers(x, 1);
        dueFilled(x, 0, 3, 28, 2);
        // one who can play both counts once for both together
        Doublecoat both = scene(0, 0, 1, 1);
        addPlayers(both, 3);
        dueFilled(both, 0, 1, 15, 3);
        // only parts of the scene count
        Doublecoat some = withParts(4);
        addPlayers(some, 1);
        addScenes(some, 10, 0, 15, 0, 8, 0);
        dueFilled(some, 0, 1, 10, 1);
        dueFilled(some, 1, 1, 15, 3);
        dueFilled(some, 2, 1, 0, 0);
    }

    private void lackSmallest() {
        says(LACK);
        // parts 0 and 1 lack one, parts 2 and 3 none: with those the excess is the same
        Doublecoat x = scene(0, 0, 1, 1);
        addPlayers(x, 1, 2, 2);
        dueFilled(x, 0, 3, 3, 1);
        Doublecoat y = scene(1, 1, 0, 0);
        addPlayers(y, 1, 2, 2);
        dueFilled(y, 0, 3, 12, 1);
        // a part and a player more: with both the excess is the same
        Doublecoat z = scene(0, 1, 1, 1);
        addPlayers(z, 1, 2, 2);
        dueFilled(z, 0, 3, 14, 1);
        Doublecoat first = scene(1, 1, 1, 0);
        addPlayers(first, 1, 2, 2);
        dueFilled(first, 0, 3, 7, 1);
        // as many parts as players: the empty one
        Doublecoat empty = scene(0, 0);
        addPlayers(empty, 1, 1);
        dueFilled(empty, 0, 2, 0, 0);
    }

    // ---- coats

    private void coats() {
        says("COATS: at most 6, numbered from 0, each with a RANK (0 to 3), a SIZE (1 to 9), and a PRICE (1 to 99); "
                + "PAWNED, or not (at first).");
        Doublecoat x = withPlayers(1);
        int[] ranks = {0, 1, 2, 3, 0, 3};
        int[] sizes = {1, 9, 5, 2, 8, 4};
        int[] prices = {1, 99, 50, 2, 98, 10};
        for (int n = 0; n < 6; n++) {
            int number = n;
            due(x, number, y -> y.coat(ranks[number], sizes[number], prices[number]));
        }
        due(x, "throws." + STATE, y -> y.coat(0, 1, 1));
        dueRow(x, ranks, (y, coat) -> y.ofCoat(coat, 0));
        dueRow(x, sizes, (y, coat) -> y.ofCoat(coat, 1));
        dueRow(x, prices, (y, coat) -> y.ofCoat(coat, 2));
        dueRow(x, new int[6], (y, coat) -> y.ofCoat(coat, 3));
        due(x, 0, y -> y.house(5));
        x.pawn(5, 0);
        dueRow(x, new int[] {0, 0, 0, 0, 0, 1}, (y, coat) -> y.ofCoat(coat, 3));
        // a coat that is told later is not pawned, whatever the others are
        Doublecoat late = with(0, 1, 0, 1, 0);
        late.pawn(0, 0);
        late.coat(0, 5, 10);
        dueRow(late, new int[] {1, 0}, (y, coat) -> y.ofCoat(coat, 3));
    }

    private static final String FITS = "A COAT fits a PART with a PLAYER, if it is not PAWNED, has the RANK of the PART or "
            + "more, and SIZES of both differ by 2 or less; its WASTE is RANK less that of the PART, and by how much "
            + "SIZES differ, together.";

    /** One part of a rank with a player of a size, and one coat. */
    private static Doublecoat fitting(int partRank, int playerSize, int coatRank, int coatSize) {
        Doublecoat x = new Doublecoat();
        x.part(0, partRank, 0);
        x.player(1, playerSize, 1);
        x.scene(1, 0);
        x.coat(coatRank, coatSize, 10);
        return x;
    }

    private void fitsByRank() {
        says(FITS);
        int[][] due = {{0, 1, 2, 3}, {NONE, 0, 1, 2}, {NONE, NONE, 0, 1}, {NONE, NONE, NONE, 0}};
        for (int partRank = 0; partRank <= 3; partRank++) {
            for (int coatRank = 0; coatRank <= 3; coatRank++) {
                int waste = due[partRank][coatRank];
                due(fitting(partRank, 5, coatRank, 5), waste, x -> x.ofScene(0, 5));
                due(fitting(partRank, 5, coatRank, 7), waste == NONE ? NONE : waste + 2, x -> x.ofScene(0, 5));
                due(fitting(partRank, 5, coatRank, 8), NONE, x -> x.ofScene(0, 5));
            }
        }
    }

    private void fitsBySize() {
        says(FITS);
        for (int playerSize = 1; playerSize <= 9; playerSize++) {
            for (int coatSize = 1; coatSize <= 9; coatSize++) {
                int apart = playerSize > coatSize ? playerSize - coatSize : coatSize - playerSize;
                int due = apart <= 2 ? apart : NONE;
                due(fitting(0, playerSize, 0, coatSize), due, x -> x.ofScene(0, 5));
            }
        }
        due(fitting(0, 9, 3, 7), 5, x -> x.ofScene(0, 5));
        due(fitting(0, 1, 3, 3), 5, x -> x.ofScene(0, 5));
    }

    private void fitsIfNotPawned() {
        says(FITS);
        Doublecoat x = fitting(0, 5, 0, 5);
        due(x, 0, y -> y.ofScene(0, 5));
        x.pawn(0, 0);
        due(x, NONE, y -> y.ofScene(0, 5));
        x.coat(3, 5, 1);
        due(x, 3, y -> y.ofScene(0, 5));
        x.pawn(1, 0);
        due(x, NONE, y -> y.ofScene(0, 5));
        x.redeem(0, 0);
        due(x, 0, y -> y.ofScene(0, 5));
    }

    // ---- dressed

    private static final String DRESS = "To DRESS a SCENE (by the BEST CAST): each PART of it has a COAT of its own that "
            + "fits it with its PLAYER; the least sum of WASTE; NONE, if there is no BEST CAST, or not all can be DRESSED.";

    private void dressWithCoatsOfTheirOwn() {
        says(DRESS);
        for (int k = 1; k <= 5; k++) {
            int actors = k;
            for (int coats = 0; coats <= 6; coats++) {
                Doublecoat x = with(actors, actors, 0, coats, 0);
                x.scene((1 << actors) - 1, 0);
                due(x, coats < actors ? NONE : 0, y -> y.ofScene(0, 5));
            }
        }
        // another scene may be dressed with the same coats
        Doublecoat x = with(2, 2, 0, 1, 0);
        addScenes(x, 1, 0, 2, 0, 1, 0, 2, 0, 3, 0);
        for (int scene = 0; scene < 4; scene++) {
            int asked = scene;
            due(x, 0, y -> y.ofScene(asked, 5));
        }
        due(x, NONE, y -> y.ofScene(4, 5));
        // a player who has two parts wants a coat for that of the scene alone
        Doublecoat both = with(2, 1, 0, 1, 0);
        addScenes(both, 1, 0, 2, 0);
        due(both, "00", y -> y.cast());
        due(both, 0, y -> y.ofScene(0, 5));
        due(both, 0, y -> y.ofScene(1, 5));
    }

    private void dressLeast() {
        says(DRESS);
        // the coat that wastes nothing on part 0 is the only one for part 1
        Doublecoat x = new Doublecoat();
        x.part(0, 0, 0);
        x.part(0, 1, 0);
        x.player(1, 5, 1);
        x.player(1, 3, 1);
        x.scene(3, 0);
        x.coat(1, 5, 10);
        due(x, NONE, y -> y.ofScene(0, 5));
        x.coat(3, 6, 10);
        due(x, 4 + 2, y -> y.ofScene(0, 5));
        x.coat(0, 7, 10);
        due(x, 2 + 2, y -> y.ofScene(0, 5));
        x.coat(0, 3, 10);
        due(x, 2 + 2, y -> y.ofScene(0, 5));
        x.coat(2, 2, 10);
        due(x, 1 + 2, y -> y.ofScene(0, 5));
        x.coat(1, 1, 10);
        due(x, 1 + 2, y -> y.ofScene(0, 5));
        // each coat fits both parts, and the one order wastes less than the other, whichever is told first
        for (int first : new int[] {5, 7}) {
            Doublecoat order = withParts(2);
            order.player(1, 5, 1);
            order.player(1, 7, 1);
            order.scene(3, 0);
            order.coat(0, first, 10);
            order.coat(0, 12 - first, 10);
            due(order, 0, y -> y.ofScene(0, 5));
        }
        // a scene without the first part, or without one between
        Doublecoat ranks = new Doublecoat();
        for (int k = 0; k < 4; k++) ranks.part(0, k, 0);
        addPlayers(ranks, 1, 1, 1, 1);
        addScenes(ranks, 8, 9, 9, 9, 10, 9, 2, 9, 4, 9, 5, 9);
        for (int k = 0; k < 2; k++) ranks.coat(3, 6, 10);
        dueRow(ranks, new int[] {1, 5, 4, 3, 2, 6}, (y, scene) -> y.ofScene(scene, 5));
        // the most there can be: five parts of rank 0, coats of rank 3 that are two sizes away
        Doublecoat most = with(5, 5, 0, 0, 0);
        most.scene(31, 0);
        for (int k = 0; k < 5; k++) most.coat(3, 3 + k % 2 * 4, 10);
        due(most, 25, y -> y.ofScene(0, 5));
        most.coat(3, 6, 10);
        due(most, 24, y -> y.ofScene(0, 5));
    }

    private void dressByTheBestCast() {
        says(DRESS);
        // the best cast takes player 0, whom the coat does not fit, though it would fit player 1
        Doublecoat x = withParts(1);
        x.player(1, 1, 1);
        x.player(1, 5, 1);
        x.scene(1, 0);
        x.coat(0, 5, 10);
        due(x, NONE, y -> y.ofScene(0, 5));
        x.sick(0, true);
        due(x, 0, y -> y.ofScene(0, 5));
        // sizes go with players, ranks with parts
        Doublecoat y = new Doublecoat();
        y.part(1, 3, 0);
        y.part(0, 0, 0);
        y.player(1, 2, 1);
        y.player(2, 8, 1);
        y.scene(3, 0);
        y.coat(0, 1, 10);
        y.coat(3, 9, 10);
        due(y, "10", z -> z.cast());
        due(y, 2, z -> z.ofScene(0, 5));
    }

    private void dressOrNone() {
        says(DRESS);
        Doublecoat x = with(2, 1, 0, 6, 0);
        addScenes(x, 1, 9);
        due(x, 0, y -> y.ofScene(0, 5));
        // without a best cast of all scenes no scene is dressed
        addScenes(x, 3, 9);
        due(x, NONE, y -> y.ofScene(0, 5));
        due(x, NONE, y -> y.ofScene(1, 5));
        addPlayers(x, 1);
        due(x, 0, y -> y.ofScene(0, 5));
        due(x, 0, y -> y.ofScene(1, 5));
        // enough coats, but none for the last one
        Doublecoat last = with(4, 5, 0, 6, 0);
        last.part(0, 1, 0);
        addScenes(last, 31, 0, 15, 0);
        due(last, NONE, y -> y.ofScene(0, 5));
        due(last, 0, y -> y.ofScene(1, 5));
    }
}
