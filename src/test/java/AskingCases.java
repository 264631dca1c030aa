import java.math.BigInteger;

/** The boundary cases of the calls that ask something: promises 13 to 25. */
final class AskingCases extends Cases {
    AskingCases(Check check) {
        super(check);
    }

    @Override
    void all() {
        ofPartWhat();
        ofNoPart();
        ofPartArguments();
        ofPlayerWhat();
        ofNoPlayer();
        ofPlayerArguments();
        ofSceneWhat();
        ofNoScene();
        ofSceneArguments();
        ofCoatWhat();
        ofNoCoat();
        ofCoatArguments();
        ofTownWhat();
        ofNoTown();
        ofTownArguments();
        houseWhat();
        houseNothingYet();
        houseArguments();
        castSigns();
        tourWhat();
        tourArguments();
        wouldNeed();
        wouldArguments();
        withoutOne();
        withoutNobody();
        shareOfOne();
        shareOfNobody();
        shareOfArguments();
        soundOnes();
        digestOrder();
    }

    // ---- promise 13

    private void ofPartWhat() {
        check.says("ofPart", "- `what`: 0 VOICE, 1 RANK, 2 CHANGE, 3 the set of SCENES in which it is, "
                + "4 the set of PARTS with which it CLASHES, 5 the set of PLAYERS that can play it, "
                + "6 its PLAYER in the BEST CAST (NONE without one, or if it is in no SCENE)");
        Doublecoat bare = new Doublecoat();
        bare.part(3, 2, 9);
        dueRow(bare, new int[] {3, 2, 9, 0, 0, 0, NONE}, (x, what) -> x.ofPart(0, what));
        Doublecoat idle = with(2, 5, 6, 0, 0);
        dueRow(idle, new int[] {0, 0, 0, 0, 0, 31, NONE}, (x, what) -> x.ofPart(1, what));
        dueRow(idle, new int[] {0, 0, 0, 63, 0, 31, 0}, (x, what) -> x.ofPart(0, what));
        Doublecoat last = with(6, 4, 0, 0, 0);
        last.part(3, 3, 9);
        last.player(8, 5, 1);
        for (int k = 0; k < 5; k++) last.scene(63, 9);
        last.scene(64, 9);
        dueRow(last, new int[] {3, 3, 9, 32, 0, 16, NONE}, (x, what) -> x.ofPart(6, what));
        Doublecoat most = with(6, 4, 0, 0, 0);
        most.part(3, 3, 9);
        most.player(8, 5, 1);
        most.scene(1, 8);
        most.scene(64, 0);
        dueRow(most, new int[] {3, 3, 9, 2, 1, 16, 4}, (x, what) -> x.ofPart(6, what));
        most.scene(127, 0);
        dueRow(most, new int[] {3, 3, 9, 6, 63, 16, NONE}, (x, what) -> x.ofPart(6, what));
        most.sick(4, true);
        dueRow(most, new int[] {3, 3, 9, 6, 63, 0, NONE}, (x, what) -> x.ofPart(6, what));
    }

    private void ofNoPart() {
        check.says("ofPart", "Throws `IndexOutOfBoundsException` if there is no such PART");
        for (int k = 0; k <= 6; k++) {
            int what = k;
            numbers(7, Cases::withParts, (x, part) -> x.ofPart(part, what));
        }
    }

    private void ofPartArguments() {
        check.says("ofPart", "Throws `IllegalArgumentException` if what is not 0 to 6");
        beside(ARGUMENT, 0, 6, () -> withParts(1), (x, what) -> x.ofPart(0, what));
        beside(ARGUMENT, 0, 6, Cases::full, (x, what) -> x.ofPart(6, what));
        due(full(), 2, x -> x.ofPart(6, 0));
        due(withScenes(1), NONE, x -> x.ofPart(0, 6));
    }

    // ---- promise 14

    private void ofPlayerWhat() {
        check.says("ofPlayer", "- `what`: 0 the set of VOICES, 1 SIZE, 2 SHARE, 3 1 if SICK, otherwise 0, "
                + "4 the set of PARTS in the BEST CAST (0 without one), 5 PURSE");
        Doublecoat bare = new Doublecoat();
        bare.player(15, 9, 5);
        dueRow(bare, new int[] {15, 9, 5, 0, 0, 0}, (x, what) -> x.ofPlayer(0, what));
        Doublecoat x = with(7, 4, 0, 1, 0);
        x.player(0, 1, 1);
        x.scene(1, 9);
        x.scene(64, 9);
        x.pawn(0, 4);
        dueRow(x, new int[] {0, 1, 1, 0, 0, 10}, (y, what) -> y.ofPlayer(4, what));
        dueRow(x, new int[] {1, 5, 1, 0, 65, 0}, (y, what) -> y.ofPlayer(0, what));
        for (int k = 1; k < 5; k++) x.scene(2 << k - 1, 9);
        dueRow(x, new int[] {1, 5, 1, 0, 95, 0}, (y, what) -> y.ofPlayer(0, what));
        x.sick(0, true);
        dueRow(x, new int[] {1, 5, 1, 1, 0, 0}, (y, what) -> y.ofPlayer(0, what));
        dueRow(x, new int[] {1, 5, 1, 0, 95, 0}, (y, what) -> y.ofPlayer(1, what));
        for (int k = 1; k < 4; k++) x.sick(k, true);
        dueRow(x, new int[] {1, 5, 1, 1, 0, 0}, (y, what) -> y.ofPlayer(1, what));
    }

    private void ofNoPlayer() {
        check.says("ofPlayer", "Throws `IndexOutOfBoundsException` if there is no such PLAYER");
        for (int k = 0; k <= 5; k++) {
            int what = k;
            numbers(5, Cases::withPlayers, (x, player) -> x.ofPlayer(player, what));
        }
    }

    private void ofPlayerArguments() {
        check.says("ofPlayer", "Throws `IllegalArgumentException` if what is not 0 to 5");
        beside(ARGUMENT, 0, 5, () -> withPlayers(1), (x, what) -> x.ofPlayer(0, what));
        beside(ARGUMENT, 0, 5, Cases::full, (x, what) -> x.ofPlayer(4, what));
        due(full(), 11, x -> x.ofPlayer(4, 0));
        due(pawned(), 10, x -> x.ofPlayer(4, 5));
    }

    private static Doublecoat pawned() {
        Doublecoat x = with(0, 5, 0, 1, 0);
        x.pawn(0, 4);
        return x;
    }

    // ---- promise 15

    private void ofSceneWhat() {
        check.says("ofScene",
                "- `what`: 0 its set of PARTS, 1 PAUSE, 2 FILLED, 3 LACK, 4 EXCESS of that, 5 the least WASTE to DRESS it (NONE)");
        Doublecoat bare = withParts(7);
        bare.scene(127, 9);
        dueRow(bare, new int[] {127, 9, 0, 127, 7, NONE}, (x, what) -> x.ofScene(0, what));
        Doublecoat x = with(7, 5, 0, 6, 0);
        for (int k = 0; k < 5; k++) x.scene(1, 9);
        x.scene(31, 0);
        dueRow(x, new int[] {31, 0, 5, 0, 0, 0}, (y, what) -> y.ofScene(5, what));
        dueRow(x, new int[] {1, 9, 1, 0, 0, 0}, (y, what) -> y.ofScene(4, what));
        x.sick(4, true);
        dueRow(x, new int[] {31, 0, 4, 31, 1, NONE}, (y, what) -> y.ofScene(5, what));
        dueRow(x, new int[] {1, 9, 1, 0, 0, NONE}, (y, what) -> y.ofScene(4, what));
    }

    private void ofNoScene() {
        check.says("ofScene", "Throws `IndexOutOfBoundsException` if there is no such SCENE");
        for (int k = 0; k <= 5; k++) {
            int what = k;
            numbers(6, Cases::withScenes, (x, scene) -> x.ofScene(scene, what));
        }
    }

    private void ofSceneArguments() {
        check.says("ofScene", "Throws `IllegalArgumentException` if what is not 0 to 5");
        beside(ARGUMENT, 0, 5, () -> withScenes(1), (x, what) -> x.ofScene(0, what));
        beside(ARGUMENT, 0, 5, Cases::full, (x, what) -> x.ofScene(5, what));
        due(full(), 96, x -> x.ofScene(5, 0));
        due(withScenes(1), NONE, x -> x.ofScene(0, 5));
    }

    // ---- promise 16

    private void ofCoatWhat() {
        check.says("ofCoat", "- `what`: 0 RANK, 1 SIZE, 2 PRICE, 3 1 if PAWNED, otherwise 0");
        Doublecoat x = with(0, 1, 0, 4, 0);
        x.coat(0, 1, 1);
        x.coat(3, 9, 99);
        dueRow(x, new int[] {0, 1, 1, 0}, (y, what) -> y.ofCoat(4, what));
        dueRow(x, new int[] {3, 9, 99, 0}, (y, what) -> y.ofCoat(5, what));
        x.pawn(5, 0);
        dueRow(x, new int[] {0, 1, 1, 0}, (y, what) -> y.ofCoat(4, what));
        dueRow(x, new int[] {3, 9, 99, 1}, (y, what) -> y.ofCoat(5, what));
        x.pawn(4, 0);
        x.pawn(0, 0);
        x.redeem(5, 0);
        dueRow(x, new int[] {0, 1, 1, 1}, (y, what) -> y.ofCoat(4, what));
        dueRow(x, new int[] {3, 9, 99, 0}, (y, what) -> y.ofCoat(5, what));
    }

    private void ofNoCoat() {
        check.says("ofCoat", "Throws `IndexOutOfBoundsException` if there is no such COAT");
        for (int k = 0; k <= 3; k++) {
            int what = k;
            numbers(6, Cases::withCoats, (x, coat) -> x.ofCoat(coat, what));
        }
    }

    private void ofCoatArguments() {
        check.says("ofCoat", "Throws `IllegalArgumentException` if what is not 0 to 3");
        beside(ARGUMENT, 0, 3, () -> withCoats(1), (x, what) -> x.ofCoat(0, what));
        beside(ARGUMENT, 0, 3, Cases::full, (x, what) -> x.ofCoat(5, what));
        due(full(), 2, x -> x.ofCoat(5, 0));
        due(full(), 1, x -> x.ofCoat(5, 3));
    }

    // ---- promise 17

    private void ofTownWhat() {
        check.says("ofTown", "- `what`: 0 x, 1 y, 2 TAKINGS, 3 MILES from HOME");
        Doublecoat x = with(1, 1, 1, 0, 3);
        x.town(0, 0, 0);
        x.town(99, 98, 999);
        dueRow(x, new int[] {0, 0, 0, 0}, (y, what) -> y.ofTown(3, what));
        dueRow(x, new int[] {99, 98, 999, 197}, (y, what) -> y.ofTown(4, what));
        x.night(4);
        dueRow(x, new int[] {99, 98, 499, 197}, (y, what) -> y.ofTown(4, what));
    }

    private void ofNoTown() {
        check.says("ofTown", "Throws `IndexOutOfBoundsException` if there is no such TOWN");
        for (int k = 0; k <= 3; k++) {
            int what = k;
            numbers(5, Cases::withTowns, (x, town) -> x.ofTown(town, what));
        }
    }

    private void ofTownArguments() {
        check.says("ofTown", "Throws `IllegalArgumentException` if what is not 0 to 3");
        beside(ARGUMENT, 0, 3, () -> withTowns(1), (x, what) -> x.ofTown(0, what));
        beside(ARGUMENT, 0, 3, Cases::full, (x, what) -> x.ofTown(4, what));
        due(full(), 36, x -> x.ofTown(4, 0));
        due(full(), 44, x -> x.ofTown(4, 3));
    }

    // ---- promise 18

    private static final String HOUSE = "- `what`: 0 PARTS, 1 PLAYERS, 2 those that are not SICK, 3 SCENES, 4 COATS, "
            + "5 PAWNED ones, 6 TOWNS, 7 how many PLAYERS have a PART in the BEST CAST (NONE without one), "
            + "8 the set of SCENES that have to be CUT, 9 what was taken in ever (NIGHTS and PAWNED COATS), "
            + "10 what was paid for COATS ever, 11 all PURSES, 12 NIGHTS, 13 how many were REFUSED";

    private void houseWhat() {
        check.says("house", HOUSE);
        Doublecoat x = with(7, 5, 0, 6, 5);
        x.scene(31, 0);
        for (int k = 1; k < 6; k++) x.scene(32 << k % 2, 9);
        dueRow(x, new int[] {7, 5, 5, 6, 6, 0, 5, 5, 0, 0, 0, 0, 0, 0}, (y, what) -> y.house(what));
        for (int k = 0; k < 6; k++) x.pawn(k, 4);
        dueRow(x, new int[] {7, 5, 5, 6, 6, 6, 5, 5, 0, 60, 0, 60, 0, 0}, (y, what) -> y.house(what));
        x.redeem(5, 4);
        x.redeem(4, 4);
        x.night(4);
        x.night(4);
        x.knock();
        dueRow(x, new int[] {7, 5, 5, 6, 6, 4, 5, 5, 0, 75, 22, 53, 2, 1}, (y, what) -> y.house(what));
        x.sick(0, true);
        dueRow(x, new int[] {7, 5, 4, 6, 6, 4, 5, NONE, 1, 75, 22, 53, 2, 1}, (y, what) -> y.house(what));
        for (int k = 1; k < 5; k++) x.sick(k, true);
        dueRow(x, new int[] {7, 5, 0, 6, 6, 4, 5, NONE, 63, 75, 22, 53, 2, 1}, (y, what) -> y.house(what));
    }

    private void houseNothingYet() {
        check.says("house", HOUSE);
        dueRow(new Doublecoat(), new int[14], (y, what) -> y.house(what));
        int[] nobody = {1, 0, 0, 1, 0, 0, 0, NONE, 1, 0, 0, 0, 0, 0};
        dueRow(withScenes(1), nobody, (y, what) -> y.house(what));
    }

    private void houseArguments() {
        check.says("house", "Throws `IllegalArgumentException` if what is not 0 to 13");
        beside(ARGUMENT, 0, 13, Doublecoat::new, (x, what) -> x.house(what));
        beside(ARGUMENT, 0, 13, Cases::full, (x, what) -> x.house(what));
        due(full(), 7, x -> x.house(0));
        due(full(), 1, x -> x.house(13));
    }

    // ---- promise 19

    private void castSigns() {
        check.says("cast", "Returns the BEST CAST, PART by PART, one sign each, with nothing between: "
                + "the number of its PLAYER, \".\" if it is in no SCENE; \"none\" without a BEST CAST.");
        due(new Doublecoat(), "", x -> x.cast());
        due(withPlayers(5), "", x -> x.cast());
        due(withParts(1), ".", x -> x.cast());
        due(with(7, 5, 0, 0, 0), ".......", x -> x.cast());
        due(with(7, 5, 6, 0, 0), "0......", x -> x.cast());
        due(with(1, 0, 1, 0, 0), "none", x -> x.cast());
        due(with(7, 0, 1, 0, 0), "none", x -> x.cast());
        Doublecoat x = with(7, 5, 0, 0, 0);
        x.scene(31, 0);
        due(x, "01234..", y -> y.cast());
        x.scene(96, 0);
        due(x, "0123401", y -> y.cast());
        x.scene(64 + 16, 0);
        due(x, "0123401", y -> y.cast());
        x.scene(126, 0);
        due(x, "none", y -> y.cast());
        Doublecoat last = withParts(7);
        addPlayers(last, 0, 0, 0, 0, 1);
        last.scene(64, 0);
        due(last, "......4", y -> y.cast());
    }

    // ---- promise 20

    private void tourWhat() {
        check.says("tour", "- `what`: 0 the set of TOWNS of the BEST TOUR, 1 the sum of TAKINGS of it, 2 its MILES");
        dueRow(new Doublecoat(), new int[] {0, 0, 0}, (y, what) -> y.tour(0, what));
        Doublecoat x = new Doublecoat();
        for (int k = 0; k < 4; k++) x.town(0, 0, 999);
        x.town(99, 99, 999);
        dueRow(x, new int[] {15, 3996, 0}, (y, what) -> y.tour(0, what));
        dueRow(x, new int[] {15, 3996, 0}, (y, what) -> y.tour(395, what));
        dueRow(x, new int[] {31, 4995, 396}, (y, what) -> y.tour(396, what));
        dueRow(x, new int[] {31, 4995, 396}, (y, what) -> y.tour(2000, what));
    }

    private void tourArguments() {
        check.says("tour", "Throws `IllegalArgumentException` if miles is not 0 to 2000, or what not 0 to 2");
        for (int k = 0; k <= 2; k++) {
            int what = k;
            beside(ARGUMENT, 0, 2000, Doublecoat::new, (x, miles) -> x.tour(miles, what));
            beside(ARGUMENT, 0, 2000, Cases::full, (x, miles) -> x.tour(miles, what));
        }
        for (int k : new int[] {0, 1, 1999, 2000}) {
            int miles = k;
            due(new Doublecoat(), 0, x -> x.tour(miles, 0));
            due(new Doublecoat(), 0, x -> x.tour(miles, 2));
            beside(ARGUMENT, 0, 2, Cases::full, (x, what) -> x.tour(miles, what));
        }
    }

    // ---- promise 21

    private void wouldNeed() {
        check.says("would", "Returns how many PLAYERS a CAST of the others would need at least; NONE without one.");
        due(new Doublecoat(), 0, x -> x.would(0));
        dueRow(withScenes(1), new int[] {NONE, 0}, (x, set) -> x.would(set));
        Doublecoat x = with(7, 5, 0, 0, 0);
        x.scene(1, 9);
        x.scene(3, 9);
        x.scene(7, 9);
        x.scene(15, 9);
        x.scene(31, 9);
        x.scene(63, 9);
        due(x, NONE, y -> y.would(0));
        due(x, NONE, y -> y.would(31));
        due(x, 5, y -> y.would(32));
        due(x, 4, y -> y.would(48));
        due(x, 3, y -> y.would(56));
        due(x, 2, y -> y.would(60));
        due(x, 1, y -> y.would(62));
        due(x, 0, y -> y.would(63));
    }

    private void wouldArguments() {
        check.says("would", "Throws `IllegalArgumentException` if scenes is no set of SCENES that there are");
        for (int k = 0; k <= 6; k++) {
            int there = k;
            beside(ARGUMENT, 0, (1 << there) - 1, () -> with(1, 1, there, 0, 0), (x, set) -> x.would(set));
            for (int set = 0; set < 1 << there; set++) {
                int left = set;
                int due = set == (1 << there) - 1 ? 0 : 1;
                due(with(1, 1, there, 0, 0), due, x -> x.would(left));
            }
        }
        refused(ARGUMENT, Cases::full, x -> x.would(LEAST | 1));
        refused(ARGUMENT, Cases::full, x -> x.would(65));
    }

    // ---- promise 22

    private void withoutOne() {
        check.says("without", "Returns how many PLAYERS would have a PART in the BEST CAST, if that one was SICK; NONE without one.");
        due(withPlayers(1), 0, x -> x.without(0));
        due(with(1, 1, 1, 0, 0), NONE, x -> x.without(0));
        dueRow(with(1, 2, 1, 0, 0), new int[] {1, 1}, (x, player) -> x.without(player));
        Doublecoat x = with(4, 5, 0, 0, 0);
        x.scene(15, 0);
        dueRow(x, new int[] {4, 4, 4, 4, 4}, (y, player) -> y.without(player));
        x.sick(4, true);
        dueRow(x, new int[] {NONE, NONE, NONE, NONE, 4}, (y, player) -> y.without(player));
        due(x, "0123", y -> y.cast());
        due(x, 4, y -> y.house(2));
        // one who is sick already is not well by that
        Doublecoat sick = with(1, 1, 1, 0, 0);
        sick.sick(0, true);
        due(sick, NONE, y -> y.without(0));
        due(sick, 1, y -> y.ofPlayer(0, 3));
        // who plays two parts alone is missed more than the others
        Doublecoat two = withParts(new int[] {0, 0}, new int[] {1, 0});
        addPlayers(two, 1, 2, 3);
        addScenes(two, 1, 0, 2, 0);
        dueRow(two, new int[] {1, 1, 2}, (y, player) -> y.without(player));
        due(two, 1, y -> y.house(7));
    }

    private void withoutNobody() {
        check.says("without", "Throws `IndexOutOfBoundsException` if there is no such PLAYER");
        numbers(5, Cases::withPlayers, (x, player) -> x.without(player));
        numbers(5, there -> with(1, there, 1, 0, 0), (x, player) -> x.without(player));
    }

    // ---- promise 23

    private void shareOfOne() {
        check.says("shareOf", "Returns what that PLAYER would have of it in a NIGHT (0, if there is no BEST CAST, or it has no PART in it).");
        due(withPlayers(1), 0, x -> x.shareOf(9999, 0));
        Doublecoat x = with(1, 2, 1, 0, 0);
        due(x, 9999, y -> y.shareOf(9999, 0));
        due(x, 1, y -> y.shareOf(1, 0));
        due(x, 0, y -> y.shareOf(0, 0));
        due(x, 0, y -> y.shareOf(9999, 1));
        x.sick(0, true);
        due(x, 0, y -> y.shareOf(9999, 0));
        due(x, 9999, y -> y.shareOf(9999, 1));
        x.sick(1, true);
        due(x, 0, y -> y.shareOf(9999, 1));
        Doublecoat five = withShares(5, 5, 5, 5, 5);
        dueRow(five, new int[] {2000, 2000, 2000, 2000, 1999}, (y, player) -> y.shareOf(9999, player));
        dueRow(five, new int[] {1, 1, 1, 1, 0}, (y, player) -> y.shareOf(4, player));
        dueRow(five, new int[] {1, 0, 0, 0, 0}, (y, player) -> y.shareOf(1, player));
        dueRow(five, new int[5], (y, player) -> y.shareOf(0, player));
        dueRow(five, new int[5], (y, player) -> y.ofPlayer(player, 5));
    }

    private void shareOfNobody() {
        check.says("shareOf", "Throws `IndexOutOfBoundsException` if there is no such PLAYER");
        numbers(5, Cases::withPlayers, (x, player) -> x.shareOf(9999, player));
        numbers(5, there -> with(1, there, 1, 0, 0), (x, player) -> x.shareOf(0, player));
    }

    private void shareOfArguments() {
        check.says("shareOf", "Throws `IllegalArgumentException` if amount is not 0 to 9999");
        beside(ARGUMENT, 0, 9999, () -> withShares(1), (x, amount) -> x.shareOf(amount, 0));
        beside(ARGUMENT, 0, 9999, () -> withPlayers(5), (x, amount) -> x.shareOf(amount, 4));
        for (int k : new int[] {0, 1, 9998, 9999}) {
            int amount = k;
            due(withShares(1), amount, x -> x.shareOf(amount, 0));
        }
    }

    // ---- promise 24

    private void soundOnes() {
        check.says("isSound", "Returns whether all of this is so: SCENE by SCENE FILLED and EXCESS of LACK together are "
                + "how many PARTS it has; all PURSES together are what was taken in, less what was paid; if there is a "
                + "BEST CAST, no two PARTS of a PLAYER CLASH, and nothing has to be CUT; if there is none, something has "
                + "to be; no PURSE is below 0.");
        due(new Doublecoat(), true, x -> x.isSound());
        due(withParts(7), true, x -> x.isSound());
        due(withScenes(6), true, x -> x.isSound());
        due(full(), true, x -> x.isSound());
        for (int set = 0; set < 32; set++) {
            Doublecoat x = full();
            for (int player = 0; player < 5; player++) x.sick(player, (set >> player & 1) != 0);
            due(x, true, y -> y.isSound());
        }
        // parts that a player had before they clashed are not that one's any more
        Doublecoat clashing = withParts(new int[] {0, 4}, new int[] {0, 5});
        addPlayers(clashing, 1);
        addScenes(clashing, 1, 9, 2, 0);
        due(clashing, "00", x -> x.cast());
        clashing.pause(0, 8);
        due(clashing, true, x -> x.isSound());
        Doublecoat poor = with(1, 1, 1, 2, 0);
        poor.pawn(0, 0);
        poor.pawn(1, 0);
        poor.redeem(0, 0);
        due(poor, true, y -> y.isSound());
        Doublecoat spent = withPlayers(1);
        spent.coat(0, 5, 9);
        spent.pawn(0, 0);
        spent.redeem(0, 0);
        due(spent, 0, y -> y.house(11));
        due(spent, true, y -> y.isSound());
    }

    // ---- promise 25

    private void digestOrder() {
        check.says("digest", "Computes a checksum. A number d starts with 8117; then d becomes d * 31 + v, which wraps "
                + "around as a 64-bit integer, for each v in this order: house() of 0 to 13; PART by PART ofPart() of 0 "
                + "to 6; PLAYER by PLAYER ofPlayer() of 0 to 5, without(), shareOf() of 100; SCENE by SCENE ofScene() of "
                + "0 to 5; COAT by COAT ofCoat() of 3; TOWN by TOWN ofTown() of 2 and 3; tour() of 150 of 0 to 2; how "
                + "many signs cast() has; 1 if isSound(), otherwise 0.");
        Make[] made = {Doublecoat::new, Cases::full, () -> withParts(7), () -> withPlayers(5), () -> withScenes(6),
            () -> withCoats(6), () -> withTowns(5), () -> with(1, 1, 1, 1, 1), () -> farTown(75), () -> farTown(76)};
        for (Make fresh : made) {
            long due = byHand(fresh.make());
            due(fresh.make(), due, x -> x.digest());
            Doublecoat twice = fresh.make();
            twice.digest();
            due(twice, due, x -> x.digest());
        }
    }

    /** A tour of 150 miles comes to the first one of these, and not to the other one. */
    private static Doublecoat farTown(int miles) {
        Doublecoat x = new Doublecoat();
        x.town(miles - 1, 1, 10);
        return x;
    }

    private static long byHand(Doublecoat x) {
        BigInteger d = BigInteger.valueOf(8117);
        for (int k = 0; k <= 13; k++) d = then(d, x.house(k));
        for (int p = 0; p < x.house(0); p++) for (int k = 0; k <= 6; k++) d = then(d, x.ofPart(p, k));
        for (int p = 0; p < x.house(1); p++) {
            for (int k = 0; k <= 5; k++) d = then(d, x.ofPlayer(p, k));
            d = then(then(d, x.without(p)), x.shareOf(100, p));
        }
        for (int s = 0; s < x.house(3); s++) for (int k = 0; k <= 5; k++) d = then(d, x.ofScene(s, k));
        for (int c = 0; c < x.house(4); c++) d = then(d, x.ofCoat(c, 3));
        for (int t = 0; t < x.house(6); t++) d = then(then(d, x.ofTown(t, 2)), x.ofTown(t, 3));
        for (int k = 0; k <= 2; k++) d = then(d, x.tour(150, k));
        d = then(then(d, x.cast().length()), x.isSound() ? 1 : 0);
        return d.longValue();
    }

    /** Nothing is lost here but at the very end, where the lowest 64 bits are taken. */
    private static BigInteger then(BigInteger d, long v) {
        return d.multiply(BigInteger.valueOf(31)).add(BigInteger.valueOf(v));
    }
}
