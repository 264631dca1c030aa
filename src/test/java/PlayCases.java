/** The boundary cases of the Description: its words on numbers, plays and players, and who plays what. */
final class PlayCases extends Cases {
    private static final String PLACE = "Description";

    PlayCases(Check check) {
        super(check);
    }

    @Override
    void all() {
        wholeNumbers();
        divided();
        none();
        sets();
        rising();
        smallestNumber();
        voices();
        parts();
        players();
        scenes();
        clashNeverWithItself();
        clashTogether();
        clashInTurn();
        clashOfNeighboursAlone();
        canPlay();
        castOfParts();
        castOfNeighbours();
        castByScenesOfTheSetAlone();
        bestCastFewest();
        bestCastSmallest();
        bestCastOrNone();
        cutFewest();
        cutSmallest();
        cutAll();
    }

    private void says(String words) {
        check.says(PLACE, words);
    }

    // ---- numbers and sets

    private void wholeNumbers() {
        says("Whole numbers.");
        Doublecoat x = withShares(1, 1);
        x.town(0, 0, 1);
        due(x, 1, y -> y.night(0));
        dueRow(x, new int[] {1, 0}, (y, player) -> y.ofPlayer(player, 5));
        due(x, 0, y -> y.ofTown(0, 2));
    }

    private void divided() {
        says("What is divided is divided towards 0.");
        Doublecoat x = withShares(1);
        x.town(0, 0, 1);
        x.town(0, 0, 999);
        x.night(0);
        x.night(1);
        due(x, 0, y -> y.ofTown(0, 2));
        due(x, 499, y -> y.ofTown(1, 2));
        x.coat(0, 5, 9);
        x.coat(0, 5, 19);
        x.coat(0, 5, 99);
        for (int coat = 0; coat < 3; coat++) x.pawn(coat, 0);
        due(x, 1127 - 9, y -> y.redeem(0, 0));
        due(x, 1118 - 20, y -> y.redeem(1, 0));
        due(x, 1098 - 108, y -> y.redeem(2, 0));
    }

    private void none() {
        says("NONE is -1.");
        Doublecoat x = withScenes(1);
        addPlayers(x, 0);
        due(x, -1, y -> y.ofPart(0, 6));
        due(x, -1, y -> y.ofScene(0, 5));
        due(x, -1, y -> y.house(7));
        due(x, -1, y -> y.would(0));
        due(x, -1, y -> y.without(0));
    }

    private void sets() {
        says("A set is the sum of 2^k for each number k.");
        for (int k = 0; k < 4; k++) {
            int voice = k;
            Doublecoat x = new Doublecoat();
            x.part(voice, 0, 0);
            for (int set = 0; set < 5; set++) x.player(1 << set & 15, 5, 1);
            due(x, 1 << voice, y -> y.ofPart(0, 5));
        }
        for (int k = 0; k < 7; k++) {
            int part = k;
            Doublecoat x = with(7, 1, 0, 0, 0);
            x.scene(1 << part, 0);
            dueRow(x, row(7, part, 1, 0), (y, p) -> y.ofPart(p, 3));
            due(x, 1 << part, y -> y.ofPlayer(0, 4));
        }
        Doublecoat x = with(2, 1, 0, 0, 0);
        for (int scene = 0; scene < 6; scene++) x.scene(scene == 2 ? 1 : 2, 0);
        dueRow(x, new int[] {4, 59}, (y, p) -> y.ofPart(p, 3));
        Doublecoat all = with(7, 5, 6, 0, 5);
        due(all, 63, y -> y.ofPart(0, 3));
        due(all, 0, y -> y.ofPart(1, 3));
        due(all, 31, y -> y.ofPart(0, 5));
        due(all, 31, y -> y.tour(2000, 0));
        due(all, 0, y -> y.tour(3, 0));
        due(all, 0, y -> y.house(8));
    }

    private static int[] row(int length, int at, int there, int elsewhere) {
        int[] row = new int[length];
        for (int k = 0; k < length; k++) row[k] = k == at ? there : elsewhere;
        return row;
    }

    private void rising() {
        says("X by X is by rising numbers.");
        Doublecoat x = withParts(new int[] {2, 0}, new int[] {1, 0}, new int[] {0, 0});
        addPlayers(x, 1, 2, 4);
        x.scene(7, 0);
        due(x, "210", y -> y.cast());
    }

    private void smallestNumber() {
        says("Where one of several is taken and nothing else is said, it is that with the smallest number.");
        due(with(1, 5, 1, 0, 0), "0", x -> x.cast());
        due(withShares(2, 2, 2), 1, x -> x.shareOf(1, 0));
        Doublecoat x = with(3, 2, 0, 0, 0);
        for (int k = 0; k < 3; k++) x.scene(7, 0);
        due(x, 7, y -> y.ofScene(2, 3));
        due(x, 7, y -> y.house(8));
    }

    // ---- plays and players

    private void voices() {
        says("VOICES 0 to 3.");
        for (int k = 0; k <= 3; k++) {
            int voice = k;
            Doublecoat x = withParts(new int[] {voice, 0});
            addPlayers(x, 15 - (1 << voice), 15, 0, 1 << voice);
            due(x, 10, y -> y.ofPart(0, 5));
            due(x, voice, y -> y.ofPart(0, 0));
        }
        due(new Doublecoat(), "throws." + ARGUMENT, x -> x.part(-1, 0, 0));
        due(new Doublecoat(), "throws." + ARGUMENT, x -> x.part(4, 0, 0));
        due(new Doublecoat(), "throws." + ARGUMENT, x -> x.player(16, 1, 1));
    }

    private void parts() {
        says("PARTS: at most 7, numbered from 0, each with a VOICE, a RANK (0 to 3), and a CHANGE (0 to 9 minutes).");
        Doublecoat x = new Doublecoat();
        for (int n = 0; n < 7; n++) {
            int number = n;
            due(x, number, y -> y.part(number % 4, 3 - number % 4, number == 6 ? 9 : number));
        }
        due(x, "throws." + STATE, y -> y.part(0, 0, 0));
        dueRow(x, new int[] {0, 1, 2, 3, 0, 1, 2}, (y, part) -> y.ofPart(part, 0));
        dueRow(x, new int[] {3, 2, 1, 0, 3, 2, 1}, (y, part) -> y.ofPart(part, 1));
        dueRow(x, new int[] {0, 1, 2, 3, 4, 5, 9}, (y, part) -> y.ofPart(part, 2));
        due(x, 7, y -> y.house(0));
    }

    private void players() {
        says("PLAYERS: at most 5, numbered from 0, each with a set of VOICES, a SIZE (1 to 9), and a SHARE (1 to 5); "
                + "SICK, or not (at first).");
        Doublecoat x = new Doublecoat();
        for (int n = 0; n < 5; n++) {
            int number = n;
            due(x, number, y -> y.player(number == 4 ? 15 : number, 1 + 2 * number, 1 + number));
        }
        due(x, "throws." + STATE, y -> y.player(15, 1, 1));
        dueRow(x, new int[] {0, 1, 2, 3, 15}, (y, player) -> y.ofPlayer(player, 0));
        dueRow(x, new int[] {1, 3, 5, 7, 9}, (y, player) -> y.ofPlayer(player, 1));
        dueRow(x, new int[] {1, 2, 3, 4, 5}, (y, player) -> y.ofPlayer(player, 2));
        dueRow(x, new int[5], (y, player) -> y.ofPlayer(player, 3));
        due(x, 5, y -> y.house(2));
        x.sick(4, true);
        dueRow(x, new int[] {0, 0, 0, 0, 1}, (y, player) -> y.ofPlayer(player, 3));
        // one who joins is not sick, whoever was before
        Doublecoat late = withPlayers(1);
        late.sick(0, true);
        addPlayers(late, 1);
        dueRow(late, new int[] {1, 0}, (y, player) -> y.ofPlayer(player, 3));
        due(late, 1, y -> y.house(2));
    }

    private void scenes() {
        says("SCENES: at most 6, numbered from 0, in their order, each with a set of PARTS (not empty), and a PAUSE "
                + "(0 to 9 minutes) behind it.");
        Doublecoat x = withParts(7);
        int[] sets = {127, 1, 64, 2, 3, 126};
        int[] pauses = {0, 9, 1, 8, 2, 7};
        for (int n = 0; n < 6; n++) {
            int number = n;
            due(x, "throws." + ARGUMENT, y -> y.scene(0, 0));
            due(x, number, y -> y.scene(sets[number], pauses[number]));
        }
        due(x, "throws." + STATE, y -> y.scene(1, 0));
        dueRow(x, sets, (y, scene) -> y.ofScene(scene, 0));
        dueRow(x, pauses, (y, scene) -> y.ofScene(scene, 1));
        due(x, 6, y -> y.house(3));
        // the same parts may be in a scene again
        due(with(1, 0, 6, 0, 0), 63, y -> y.ofPart(0, 3));
    }

    private static final String CLASH = "Two PARTS (never one with itself) CLASH, if they are in a SCENE together, or if "
            + "there is a SCENE with the one whose next one has the other one, and CHANGE of both together is more than "
            + "the PAUSE between.";

    private void clashNeverWithItself() {
        says(CLASH);
        Doublecoat x = withParts(new int[] {0, 9});
        addPlayers(x, 1);
        for (int k = 0; k < 6; k++) x.scene(1, 0);
        due(x, 0, y -> y.ofPart(0, 4));
        due(x, "0", y -> y.cast());
        due(x, 0, y -> y.house(8));
    }

    private void clashTogether() {
        says(CLASH);
        Doublecoat x = withParts(7);
        x.scene(127, 9);
        dueRow(x, new int[] {126, 125, 123, 119, 111, 95, 63}, (y, part) -> y.ofPart(part, 4));
        Doublecoat two = withParts(7);
        addScenes(two, 65, 9, 2, 9);
        dueRow(two, new int[] {64, 0, 0, 0, 0, 0, 1}, (y, part) -> y.ofPart(part, 4));
        // parts that are in no scene, or in one alone, clash with none
        dueRow(with(7, 0, 6, 0, 0), new int[7], (y, part) -> y.ofPart(part, 4));
    }

    private void clashInTurn() {
        says(CLASH);
        for (int change = 0; change <= 9; change++) {
            for (int other = 0; other <= 9; other++) {
                for (int pause = 0; pause <= 9; pause++) {
                    Doublecoat x = withParts(new int[] {0, change}, new int[] {0, other});
                    addPlayers(x, 1);
                    addScenes(x, 1, pause, 2, 0);
                    boolean clash = change + other > pause;
                    dueRow(x, clash ? new int[] {2, 1} : new int[2], (y, part) -> y.ofPart(part, 4));
                    due(x, clash ? "none" : "00", y -> y.cast());
                }
            }
        }
        // the greater number may stand first, and a scene may have both kinds
        Doublecoat x = withParts(new int[] {0, 3}, new int[] {0, 1}, new int[] {0, 2});
        addScenes(x, 4, 4, 3, 0);
        dueRow(x, new int[] {6, 1, 1}, (y, part) -> y.ofPart(part, 4));
        x.pause(0, 5);
        dueRow(x, new int[] {2, 1, 0}, (y, part) -> y.ofPart(part, 4));
        x.pause(0, 2);
        dueRow(x, new int[] {6, 5, 3}, (y, part) -> y.ofPart(part, 4));
    }

    private void clashOfNeighboursAlone() {
        says(CLASH);
        Doublecoat x = withParts(new int[] {0, 9}, new int[] {0, 9}, new int[] {0, 0});
        addScenes(x, 1, 0, 4, 0, 2, 0);
        dueRow(x, new int[] {4, 4, 3}, (y, part) -> y.ofPart(part, 4));
        // the pause behind the first one counts, not that behind the other one
        x.pause(0, 9);
        dueRow(x, new int[] {0, 4, 2}, (y, part) -> y.ofPart(part, 4));
        x.pause(1, 9);
        dueRow(x, new int[3], (y, part) -> y.ofPart(part, 4));
        // nothing is next to the last one, not even the first one
        Doublecoat six = withParts(new int[] {0, 9}, new int[] {0, 0}, new int[] {0, 9});
        addScenes(six, 1, 9, 2, 9, 2, 9, 2, 9, 2, 9, 4, 0);
        dueRow(six, new int[3], (y, part) -> y.ofPart(part, 4));
        six.pause(4, 8);
        dueRow(six, new int[] {0, 4, 2}, (y, part) -> y.ofPart(part, 4));
        // one pause of several is enough
        Doublecoat twice = withParts(new int[] {0, 1}, new int[] {0, 0});
        addScenes(twice, 1, 9, 2, 0, 1, 9, 2, 9);
        dueRow(twice, new int[] {2, 1}, (y, part) -> y.ofPart(part, 4));
        twice.pause(1, 1);
        dueRow(twice, new int[2], (y, part) -> y.ofPart(part, 4));
    }

    private void canPlay() {
        says("A PLAYER can play a PART, if not SICK, and with its VOICE.");
        Doublecoat x = withParts(new int[] {0, 0}, new int[] {1, 0}, new int[] {2, 0}, new int[] {3, 0});
        addPlayers(x, 0, 1, 8, 6, 15);
        dueRow(x, new int[] {18, 24, 24, 20}, (y, part) -> y.ofPart(part, 5));
        x.sick(4, true);
        dueRow(x, new int[] {2, 8, 8, 4}, (y, part) -> y.ofPart(part, 5));
        for (int k = 0; k < 4; k++) x.sick(k, true);
        dueRow(x, new int[4], (y, part) -> y.ofPart(part, 5));
        x.sick(4, false);
        dueRow(x, new int[] {16, 16, 16, 16}, (y, part) -> y.ofPart(part, 5));
    }

    // ---- who plays what

    private static final String CAST = "A CAST of a set of SCENES: each PART that is in one of these has a PLAYER that "
            + "can play it, and no two PARTS of a PLAYER CLASH (by SCENES of the set alone; the next one of a SCENE is "
            + "the next one of the set, the PAUSE that behind the first one of both).";

    private void castOfParts() {
        says(CAST);
        // a part that nobody can play counts as soon as it is in a scene of the set
        Doublecoat x = withParts(new int[] {0, 0}, new int[] {1, 0});
        addPlayers(x, 1);
        due(x, 0, y -> y.would(0));
        addScenes(x, 1, 9);
        due(x, 1, y -> y.would(0));
        addScenes(x, 2, 9);
        dueRow(x, new int[] {NONE, NONE, 1, 0}, (y, set) -> y.would(set));
        due(x, "none", y -> y.cast());
    }

    private void castOfNeighbours() {
        says(CAST);
        // parts 0 and 2 become neighbours when scene 1 is left out: the pause of scene 0 counts, not that of scene 1
        Doublecoat x = withParts(new int[] {0, 4}, new int[] {1, 0}, new int[] {0, 5});
        addPlayers(x, 3);
        addScenes(x, 1, 9, 2, 0, 4, 0);
        // the change of parts 1 and 2 is more than the pause of scene 1
        dueRow(x, new int[] {NONE, NONE, 1, 1, 1, 1, 1, 0}, (y, set) -> y.would(set));
        x.pause(1, 9);
        x.pause(0, 8);
        dueRow(x, new int[] {1, 1, NONE, 1, 1, 1, 1, 0}, (y, set) -> y.would(set));
        due(x, 1, y -> y.house(7));
        // with several left out between them, too
        Doublecoat six = withParts(new int[] {0, 5}, new int[] {1, 0}, new int[] {0, 5});
        addPlayers(six, 1, 2, 1);
        addScenes(six, 1, 9, 2, 9, 2, 9, 2, 9, 2, 9, 4, 9);
        due(six, 2, y -> y.would(0));
        due(six, 2, y -> y.would(2 + 4 + 8));
        due(six, 2, y -> y.would(2 + 4 + 8 + 16));
        six.sick(2, true);
        due(six, 2, y -> y.would(2 + 4 + 8));
        due(six, NONE, y -> y.would(2 + 4 + 8 + 16));
        due(six, 1, y -> y.would(2 + 4 + 8 + 16 + 32));
        due(six, 1, y -> y.would(1 + 2 + 4 + 8 + 16));
    }

    private void castByScenesOfTheSetAlone() {
        says(CAST);
        // together in scene 1 alone, and next to one another in the others only if pauses are short
        Doublecoat x = withParts(new int[] {0, 4}, new int[] {0, 5});
        addPlayers(x, 1, 1);
        addScenes(x, 1, 9, 3, 0, 2, 0);
        dueRow(x, new int[] {2, 2, 1, 1, 2, 2, 1, 0}, (y, set) -> y.would(set));
        x.pause(0, 8);
        dueRow(x, new int[] {2, 2, 2, 1, 2, 2, 1, 0}, (y, set) -> y.would(set));
        due(x, "01", y -> y.cast());
    }

    private static final String BEST = "The BEST CAST of all SCENES: that with the fewest PLAYERS who have a PART; of "
            + "several that with the smaller number of a PLAYER at the first PART in which they differ.";

    private void bestCastFewest() {
        says(BEST);
        // fewer players are better than smaller numbers
        Doublecoat x = withParts(new int[] {0, 0}, new int[] {1, 0}, new int[] {2, 0});
        addPlayers(x, 1, 2, 4, 3, 7);
        addScenes(x, 1, 0, 2, 0, 4, 0);
        due(x, "444", y -> y.cast());
        x.sick(4, true);
        due(x, "332", y -> y.cast());
        due(x, 2, y -> y.house(7));
        x.sick(3, true);
        due(x, "012", y -> y.cast());
        due(x, 3, y -> y.house(7));
        due(with(7, 5, 0, 0, 0), 0, y -> y.house(7));
        Doublecoat seven = withParts(7);
        addPlayers(seven, 0, 0, 0, 0, 1);
        for (int k = 0; k < 5; k++) seven.scene(1 << k, 0);
        seven.scene(32, 0);
        due(seven, "444444.", y -> y.cast());
        due(seven, 1, y -> y.house(7));
        Doublecoat five = with(7, 5, 0, 0, 0);
        addScenes(five, 31, 0, 124, 0);
        due(five, 5, y -> y.house(7));
        due(five, "0123401", y -> y.cast());
    }

    private void bestCastSmallest() {
        says(BEST);
        due(with(1, 5, 1, 0, 0), "0", x -> x.cast());
        // the first part in which they differ decides: 0100 comes before 0110 and 1000
        Doublecoat x = with(4, 3, 0, 0, 0);
        addScenes(x, 3, 0, 8, 9, 4, 9);
        due(x, "0100", y -> y.cast());
        addScenes(x, 5, 0);
        due(x, "0110", y -> y.cast());
        addScenes(x, 9, 0);
        due(x, "0111", y -> y.cast());
        // the first part decides, though fewer can play the other one
        Doublecoat choice = withParts(new int[] {0, 0}, new int[] {1, 0});
        addPlayers(choice, 3, 3, 1);
        addScenes(choice, 3, 0);
        due(choice, "01", y -> y.cast());
        Doublecoat turned = withParts(new int[] {1, 0}, new int[] {0, 0});
        addPlayers(turned, 3, 3, 1);
        addScenes(turned, 3, 0);
        due(turned, "01", y -> y.cast());
        // player 1 is the only one who can play two parts: the first one and the last one, or the last two
        Doublecoat ends = withParts(new int[] {0, 0}, new int[] {0, 0}, new int[] {1, 0});
        addPlayers(ends, 1, 3, 1, 2);
        addScenes(ends, 3, 0, 6, 0);
        due(ends, "101", y -> y.cast());
        Doublecoat last = withParts(new int[] {0, 0}, new int[] {0, 0}, new int[] {1, 0});
        addPlayers(last, 1, 3, 1, 2);
        addScenes(last, 3, 0, 4, 0);
        due(last, "011", y -> y.cast());
        due(last, 2, y -> y.house(7));
    }

    private void bestCastOrNone() {
        says(BEST);
        due(new Doublecoat(), 0, x -> x.house(7));
        due(with(7, 5, 0, 0, 0), ".......", x -> x.cast());
        Doublecoat five = with(6, 5, 0, 0, 0);
        five.scene(31, 0);
        due(five, "01234.", x -> x.cast());
        due(five, 5, x -> x.house(7));
        five.scene(63, 0);
        due(five, "none", x -> x.cast());
        due(five, NONE, x -> x.house(7));
        for (int player = 0; player < 5; player++) {
            int asked = player;
            due(five, 0, x -> x.ofPlayer(asked, 4));
        }
    }

    private static final String CUT = "To CUT: of all sets of SCENES that are left out, that with the fewest SCENES for "
            + "which there is a CAST of the others (of several that with the smallest number).";

    private void cutFewest() {
        says(CUT);
        due(new Doublecoat(), 0, x -> x.house(8));
        due(with(1, 1, 6, 0, 0), 0, x -> x.house(8));
        // scene 2 alone, or scenes 0 and 1: one rather than two, though their number is the smaller one
        Doublecoat x = withParts(new int[] {0, 5}, new int[] {0, 5});
        addPlayers(x, 1);
        addScenes(x, 1, 9, 1, 9, 2, 9);
        due(x, 4, y -> y.house(8));
        due(x, 1, y -> y.would(3));
        Doublecoat six = with(7, 2, 0, 0, 0);
        addScenes(six, 1, 9, 2, 9, 4, 9, 8, 9, 16, 9, 112, 9);
        due(six, 32, y -> y.house(8));
        // leaving the scene between would make neighbours that clash
        Doublecoat between = withParts(new int[] {0, 5}, new int[] {1, 0}, new int[] {0, 5});
        addPlayers(between, 1);
        addScenes(between, 1, 9, 2, 9, 4, 9);
        due(between, 3, y -> y.house(8));
    }

    private void cutSmallest() {
        says(CUT);
        // two neighbours that one player cannot play: the first one of both
        Doublecoat x = withParts(new int[] {0, 5}, new int[] {0, 5});
        addPlayers(x, 1);
        addScenes(x, 1, 9, 2, 9);
        due(x, 1, y -> y.house(8));
        // in turn: 1 and 3 left out, or 0 and 2, which is the smaller number
        Doublecoat turns = withParts(new int[] {0, 5}, new int[] {0, 5});
        addPlayers(turns, 1);
        addScenes(turns, 1, 9, 2, 9, 1, 9, 2, 9);
        due(turns, 5, y -> y.house(8));
        addScenes(turns, 1, 9);
        due(turns, 10, y -> y.house(8));
        addScenes(turns, 2, 9);
        due(turns, 21, y -> y.house(8));
    }

    private void cutAll() {
        says("(There is one always, as all may be left out.)");
        for (int k = 0; k <= 6; k++) {
            int there = k;
            due(with(1, 0, there, 0, 0), (1 << there) - 1, x -> x.house(8));
            Doublecoat sick = with(1, 1, there, 0, 0);
            sick.sick(0, true);
            due(sick, (1 << there) - 1, x -> x.house(8));
            due(sick, 0, x -> x.would((1 << there) - 1));
        }
    }
}
