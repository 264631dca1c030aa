import java.util.Arrays;

/** The boundary cases of the calls that tell something: promises 1 to 12. */
final class TellingCases extends Cases {
    TellingCases(Check check) {
        super(check);
    }

    @Override
    void all() {
        nothingThereYet();
        partNumbers();
        partArguments();
        partsThereMayBe();
        playerNumbers();
        playerArguments();
        playersThereMayBe();
        sceneNumbers();
        sceneArguments();
        scenesThereMayBe();
        pauseBefore();
        pauseFromNowOn();
        pauseOfNoScene();
        pauseArguments();
        wellOnes();
        sickFromNowOn();
        sickOfNoPlayer();
        coatNumbers();
        coatArguments();
        coatsThereMayBe();
        pawnPurse();
        pawnOfNoCoatOrPlayer();
        pawnOfPawned();
        redeemPurse();
        redeemOfNoCoatOrPlayer();
        redeemOfNotPawned();
        redeemByPoorPurse();
        townNumbers();
        townArguments();
        townsThereMayBe();
        nightShared();
        nightInNoTown();
        nightWithoutCast();
        knocks();
    }

    // ---- promise 1

    private void nothingThereYet() {
        check.says("Doublecoat", "Creates a company without PLAYERS.");
        Doublecoat x = new Doublecoat();
        dueRow(x, new int[14], (y, what) -> y.house(what));
        dueRow(x, new int[3], (y, what) -> y.tour(2000, what));
        due(x, "", y -> y.cast());
        due(x, 0, y -> y.would(0));
        due(x, true, y -> y.isSound());
        due(x, 7639546369218318892L, y -> y.digest());
        due(x, "throws." + INDEX, y -> y.ofPlayer(0, 0));
        Doublecoat other = full();
        due(x, 0, y -> y.house(1));
        due(other, 5, y -> y.house(1));
    }

    // ---- promise 2

    private void partNumbers() {
        check.says("part", "Returns its number.");
        Doublecoat x = new Doublecoat();
        for (int number = 0; number < 7; number++) {
            due(x, "throws." + ARGUMENT, y -> y.part(4, 0, 0));
            due(x, number, y -> y.part(3, 3, 9));
            due(x, number + 1, y -> y.house(0));
        }
    }

    private void partArguments() {
        check.says("part", "Throws `IllegalArgumentException` if voice or rank is not 0 to 3, or change not 0 to 9");
        range(0, 3, () -> withParts(1), (x, v) -> x.part(v, 0, 0), (x, v) -> x.ofPart(1, 0));
        range(0, 3, () -> withParts(1), (x, v) -> x.part(0, v, 0), (x, v) -> x.ofPart(1, 1));
        range(0, 9, () -> withParts(1), (x, v) -> x.part(0, 0, v), (x, v) -> x.ofPart(1, 2));
    }

    private void partsThereMayBe() {
        check.says("part", "Throws `IllegalStateException` if there are 7");
        fills(7, Doublecoat::new, x -> x.part(3, 3, 9));
        refused(STATE, Cases::full, x -> x.part(0, 0, 0));
    }

    // ---- promise 3

    private void playerNumbers() {
        check.says("player", "Returns its number.");
        Doublecoat x = new Doublecoat();
        for (int number = 0; number < 5; number++) {
            due(x, "throws." + ARGUMENT, y -> y.player(16, 1, 1));
            due(x, number, y -> y.player(15, 9, 5));
            due(x, number + 1, y -> y.house(1));
        }
    }

    private void playerArguments() {
        check.says("player",
                "Throws `IllegalArgumentException` if voices is not 0 to 15, size not 1 to 9, or share not 1 to 5");
        range(0, 15, () -> withPlayers(1), (x, v) -> x.player(v, 1, 1), (x, v) -> x.ofPlayer(1, 0));
        range(1, 9, () -> withPlayers(1), (x, v) -> x.player(1, v, 1), (x, v) -> x.ofPlayer(1, 1));
        range(1, 5, () -> withPlayers(1), (x, v) -> x.player(1, 1, v), (x, v) -> x.ofPlayer(1, 2));
    }

    private void playersThereMayBe() {
        check.says("player", "Throws `IllegalStateException` if there are 5");
        fills(5, Doublecoat::new, x -> x.player(15, 9, 5));
        refused(STATE, Cases::full, x -> x.player(0, 1, 1));
    }

    // ---- promise 4

    private void sceneNumbers() {
        check.says("scene", "Returns its number.");
        Doublecoat x = withParts(2);
        for (int number = 0; number < 6; number++) {
            due(x, "throws." + ARGUMENT, y -> y.scene(0, 0));
            int set = 1 + number % 3;
            due(x, number, y -> y.scene(set, 9));
            due(x, number + 1, y -> y.house(3));
        }
        dueRow(x, new int[] {1, 2, 3, 1, 2, 3}, (y, scene) -> y.ofScene(scene, 0));
    }

    private void sceneArguments() {
        check.says("scene",
                "Throws `IllegalArgumentException` if parts is empty, or no set of PARTS that there are, or pause not 0 to 9");
        for (int k = 0; k <= 7; k++) {
            int there = k;
            range(1, (1 << there) - 1, () -> withParts(there), (x, v) -> x.scene(v, 0), (x, v) -> x.ofScene(0, 0));
        }
        refused(ARGUMENT, () -> withParts(7), x -> x.scene(LEAST | 1, 0));
        refused(ARGUMENT, () -> withParts(7), x -> x.scene(129, 0));
        range(0, 9, () -> withScenes(1), (x, v) -> x.scene(1, v), (x, v) -> x.ofScene(1, 1));
    }

    private void scenesThereMayBe() {
        check.says("scene", "Throws `IllegalStateException` if there are 6");
        fills(6, () -> withParts(1), x -> x.scene(1, 9));
        refused(STATE, Cases::full, x -> x.scene(127, 0));
    }

    // ---- promise 5

    private void pauseBefore() {
        check.says("pause", "Returns that before.");
        Doublecoat x = withScenes(2);
        int before = 0;
        for (int now : new int[] {9, 9, 0, 0, 5, 4}) {
            due(x, before, y -> y.pause(1, now));
            due(x, now, y -> y.ofScene(1, 1));
            due(x, 0, y -> y.ofScene(0, 1));
            before = now;
        }
    }

    /** Whoever asks first behind the change is answered by the new pause. */
    private void pauseFromNowOn() {
        check.says("pause", "- `pause`: PAUSE from now on");
        Call[] asked = {x -> x.cast(), x -> x.house(7), x -> x.house(8), x -> x.ofPart(0, 6), x -> x.ofPlayer(0, 4),
            x -> x.ofScene(0, 5), x -> x.shareOf(9, 0), x -> x.would(0), x -> x.ofPart(0, 4), x -> x.isSound()};
        Object[] apart = {"00", 1, 0, 0, 3, 0, 9, 1, 0, true};
        Object[] close = {"none", NONE, 1, NONE, 0, NONE, 0, NONE, 2, true};
        for (int k = 0; k < asked.length; k++) {
            Doublecoat x = withParts(new int[] {0, 4}, new int[] {0, 5});
            addPlayers(x, 1);
            addScenes(x, 1, 9, 2, 0);
            x.coat(0, 5, 10);
            for (int turn = 0; turn < 2; turn++) {
                due(x, apart[k], asked[k]);
                x.pause(0, 8);
                due(x, close[k], asked[k]);
                x.pause(0, 9);
            }
        }
    }

    private void pauseOfNoScene() {
        check.says("pause", "Throws `IndexOutOfBoundsException` if there is no such SCENE");
        numbers(6, Cases::withScenes, (x, scene) -> x.pause(scene, 9));
    }

    private void pauseArguments() {
        check.says("pause", "Throws `IllegalArgumentException` if pause is not 0 to 9");
        range(0, 9, () -> withScenes(6), (x, v) -> x.pause(5, v), (x, v) -> x.ofScene(5, 1));
        range(0, 9, Cases::full, (x, v) -> x.pause(0, v), (x, v) -> x.ofScene(0, 1));
    }

    // ---- promise 6

    private void wellOnes() {
        check.says("sick", "Returns how many are not SICK then.");
        for (int k = 1; k <= 5; k++) {
            int there = k;
            Doublecoat x = withPlayers(there);
            for (int n = 0; n < there; n++) {
                int player = n;
                due(x, there - n, y -> y.sick(player, false));
                due(x, there - n - 1, y -> y.sick(player, true));
                due(x, there - n - 1, y -> y.sick(player, true));
                due(x, there - n - 1, y -> y.house(2));
            }
            due(x, 1, y -> y.sick(there - 1, false));
            due(x, 1, y -> y.sick(there - 1, false));
            due(x, there == 1 ? 1 : 2, y -> y.sick(0, false));
        }
    }

    private void sickFromNowOn() {
        check.says("sick", "- `is`: whether SICK from now on");
        Call[] asked = {x -> x.cast(), x -> x.house(7), x -> x.house(8), x -> x.ofPart(0, 6), x -> x.ofPlayer(0, 4),
            x -> x.ofScene(0, 5), x -> x.shareOf(9, 0), x -> x.would(0), x -> x.ofPart(0, 5), x -> x.isSound(),
            x -> x.ofScene(0, 2), x -> x.ofScene(0, 3), x -> x.ofScene(0, 4), x -> x.ofPlayer(0, 3), x -> x.house(2)};
        Object[] well = {"0", 1, 0, 0, 1, 0, 9, 1, 1, true, 1, 0, 0, 0, 1};
        Object[] sick = {"none", NONE, 1, NONE, 0, NONE, 0, NONE, 0, true, 0, 1, 1, 1, 0};
        for (int k = 0; k < asked.length; k++) {
            Doublecoat x = with(1, 1, 1, 1, 0);
            for (int turn = 0; turn < 2; turn++) {
                due(x, well[k], asked[k]);
                x.sick(0, true);
                due(x, sick[k], asked[k]);
                x.sick(0, false);
            }
        }
    }

    private void sickOfNoPlayer() {
        check.says("sick", "Throws `IndexOutOfBoundsException` if there is no such PLAYER");
        numbers(5, Cases::withPlayers, (x, player) -> x.sick(player, true));
        numbers(5, Cases::withPlayers, (x, player) -> x.sick(player, false));
    }

    // ---- promise 7

    private void coatNumbers() {
        check.says("coat", "Returns its number.");
        Doublecoat x = new Doublecoat();
        for (int number = 0; number < 6; number++) {
            due(x, "throws." + ARGUMENT, y -> y.coat(0, 0, 1));
            due(x, number, y -> y.coat(3, 9, 99));
            due(x, number + 1, y -> y.house(4));
        }
    }

    private void coatArguments() {
        check.says("coat",
                "Throws `IllegalArgumentException` if rank is not 0 to 3, size not 1 to 9, or price not 1 to 99");
        range(0, 3, () -> withCoats(1), (x, v) -> x.coat(v, 1, 1), (x, v) -> x.ofCoat(1, 0));
        range(1, 9, () -> withCoats(1), (x, v) -> x.coat(0, v, 1), (x, v) -> x.ofCoat(1, 1));
        range(1, 99, () -> withCoats(1), (x, v) -> x.coat(0, 1, v), (x, v) -> x.ofCoat(1, 2));
    }

    private void coatsThereMayBe() {
        check.says("coat", "Throws `IllegalStateException` if there are 6");
        fills(6, Doublecoat::new, x -> x.coat(3, 9, 99));
        refused(STATE, Cases::full, x -> x.coat(0, 1, 1));
    }

    // ---- promise 8

    private void pawnPurse() {
        check.says("pawn", "Returns that PURSE then.");
        Doublecoat x = withPlayers(5);
        for (int price : new int[] {1, 99, 50, 2, 98, 99}) x.coat(0, 1, price);
        due(x, 1, y -> y.pawn(0, 0));
        due(x, 99, y -> y.pawn(1, 4));
        due(x, 51, y -> y.pawn(2, 0));
        due(x, 2, y -> y.pawn(3, 2));
        due(x, 197, y -> y.pawn(4, 4));
        due(x, 296, y -> y.pawn(5, 4));
        dueRow(x, new int[] {51, 0, 2, 0, 296}, (y, player) -> y.ofPlayer(player, 5));
    }

    private void pawnOfNoCoatOrPlayer() {
        check.says("pawn", "Throws `IndexOutOfBoundsException` if there is no such COAT, or PLAYER");
        numbers(6, there -> with(0, 5, 0, there, 0), (x, coat) -> x.pawn(coat, 4));
        numbers(5, there -> with(0, there, 0, 6, 0), (x, player) -> x.pawn(5, player));
        refused(INDEX, Doublecoat::new, x -> x.pawn(0, 0));
    }

    private void pawnOfPawned() {
        check.says("pawn", "Throws `IllegalStateException` if it is PAWNED");
        for (int k = 0; k < 6; k++) {
            int coat = k;
            Make pawned = () -> pawned(with(0, 2, 0, 6, 0), coat, 1);
            refused(STATE, pawned, x -> x.pawn(coat, 0));
            refused(STATE, pawned, x -> x.pawn(coat, 1));
            due(pawned.make(), 20, x -> x.pawn((coat + 1) % 6, 1));
        }
        Doublecoat again = pawned(with(0, 2, 0, 2, 0), 0, 1);
        again.pawn(1, 1);
        again.redeem(0, 1);
        due(again, 10, x -> x.pawn(0, 0));
        due(again, "throws." + STATE, x -> x.pawn(0, 0));
    }

    private static Doublecoat pawned(Doublecoat x, int coat, int player) {
        x.pawn(coat, player);
        return x;
    }

    // ---- promise 9

    /** A coat 0 of this price that player 1 has pawned, and this amount in the purse of player 0. */
    private static Doublecoat pawnedAndPurse(int price, int amount) {
        Doublecoat x = withPlayers(2);
        x.coat(0, 5, price);
        x.pawn(0, 1);
        int left = amount;
        while (left > 0) {
            int next = Math.min(left, 99);
            x.pawn(x.coat(0, 5, next), 0);
            left -= next;
        }
        return x;
    }

    /** PRICE and as many whole tenths as there are in it. */
    private static int cost(int price) {
        int tenths = 0;
        while (10 * (tenths + 1) <= price) tenths++;
        return price + tenths;
    }

    private void redeemPurse() {
        check.says("redeem", "Returns that PURSE then.");
        int[][] told = {{1, 1}, {9, 9}, {10, 11}, {19, 20}, {20, 22}, {89, 97}, {90, 99}, {98, 107}, {99, 108}};
        for (int[] row : told) {
            due(pawnedAndPurse(row[0], 150), 150 - row[1], x -> x.redeem(0, 0));
        }
        Doublecoat x = pawnedAndPurse(40, 45);
        due(x, 1, y -> y.redeem(0, 0));
        dueRow(x, new int[] {1, 40}, (y, player) -> y.ofPlayer(player, 5));
        due(x, 44, y -> y.house(10));
        due(x, 85, y -> y.house(9));
        due(x, 0, y -> y.ofCoat(0, 3));
    }

    private void redeemOfNoCoatOrPlayer() {
        check.says("redeem", "Throws `IndexOutOfBoundsException` if there is no such COAT, or PLAYER");
        refused(INDEX, Doublecoat::new, x -> x.redeem(0, 0));
        numbers(6, there -> allPawned(5, there), (x, coat) -> x.redeem(coat, 4));
        numbers(5, there -> allPawned(there, 6), (x, player) -> x.redeem(5, player));
    }

    /** So many rich players, and so many coats, all of them pawned. */
    private static Doublecoat allPawned(int players, int coats) {
        int[] shares = new int[players];
        Arrays.fill(shares, 1);
        Doublecoat x = players == 0 ? new Doublecoat() : withShares(shares);
        x.town(0, 0, 999);
        for (int coat = 0; coat < coats; coat++) x.coat(0, 5, 10);
        if (players > 0) {
            x.night(0);
            for (int coat = 0; coat < coats; coat++) x.pawn(coat, 0);
        }
        return x;
    }

    private void redeemOfNotPawned() {
        check.says("redeem", "Throws `IllegalStateException` if it is not PAWNED, or the PURSE has not so much");
        for (int k = 0; k < 6; k++) {
            int coat = k;
            Make rich = () -> pawned(with(0, 1, 0, 6, 0), (coat + 1) % 6, 0);
            refused(STATE, rich, x -> x.redeem(coat, 0));
        }
        Make back = () -> {
            Doublecoat x = pawnedAndPurse(10, 99);
            x.redeem(0, 0);
            return x;
        };
        refused(STATE, back, x -> x.redeem(0, 0));
        refused(STATE, () -> with(0, 1, 0, 1, 0), x -> x.redeem(0, 0));
    }

    private void redeemByPoorPurse() {
        check.says("redeem", "Throws `IllegalStateException` if it is not PAWNED, or the PURSE has not so much");
        for (int k = 1; k <= 99; k++) {
            int price = k;
            int cost = cost(price);
            due(pawnedAndPurse(price, cost), 0, x -> x.redeem(0, 0));
            due(pawnedAndPurse(price, cost + 1), 1, x -> x.redeem(0, 0));
            refused(STATE, () -> pawnedAndPurse(price, cost - 1), x -> x.redeem(0, 0));
        }
        refused(STATE, () -> pawnedAndPurse(1, 0), x -> x.redeem(0, 0));
    }

    // ---- promise 10

    private void townNumbers() {
        check.says("town", "Returns its number.");
        Doublecoat x = new Doublecoat();
        for (int number = 0; number < 5; number++) {
            due(x, "throws." + ARGUMENT, y -> y.town(100, 0, 0));
            due(x, number, y -> y.town(99, 99, 999));
            due(x, number + 1, y -> y.house(6));
        }
    }

    private void townArguments() {
        check.says("town", "Throws `IllegalArgumentException` if x or y is not 0 to 99, or takings not 0 to 999");
        range(0, 99, () -> withTowns(1), (x, v) -> x.town(v, 0, 0), (x, v) -> x.ofTown(1, 0));
        range(0, 99, () -> withTowns(1), (x, v) -> x.town(0, v, 0), (x, v) -> x.ofTown(1, 1));
        range(0, 999, () -> withTowns(1), (x, v) -> x.town(0, 0, v), (x, v) -> x.ofTown(1, 2));
    }

    private void townsThereMayBe() {
        check.says("town", "Throws `IllegalStateException` if there are 5");
        fills(5, Doublecoat::new, x -> x.town(99, 99, 999));
        refused(STATE, Cases::full, x -> x.town(0, 0, 0));
    }

    // ---- promise 11

    private void nightShared() {
        check.says("night", "Returns what is shared by that.");
        Doublecoat x = withShares(1, 1);
        for (int takings : new int[] {0, 1, 2, 999}) x.town(0, 0, takings);
        due(x, 0, y -> y.night(0));
        due(x, 1, y -> y.night(1));
        due(x, 0, y -> y.night(1));
        due(x, 2, y -> y.night(2));
        due(x, 999, y -> y.night(3));
        due(x, 499, y -> y.night(3));
        due(x, 6, y -> y.house(12));
        due(x, 1501, y -> y.house(9));
    }

    private void nightInNoTown() {
        check.says("night", "Throws `IndexOutOfBoundsException` if there is no such TOWN");
        numbers(5, Cases::withTowns, (x, town) -> x.night(town));
    }

    private void nightWithoutCast() {
        check.says("night",
                "Throws `IllegalStateException` if there is no BEST CAST, or it has no PLAYERS (as there are no SCENES)");
        refused(STATE, () -> with(0, 0, 0, 0, 1), x -> x.night(0));
        refused(STATE, () -> with(1, 1, 0, 0, 1), x -> x.night(0));
        refused(STATE, () -> with(7, 5, 0, 6, 5), x -> x.night(4));
        refused(STATE, () -> with(1, 0, 1, 0, 1), x -> x.night(0));
        due(with(1, 1, 1, 0, 1), 10, x -> x.night(0));
        Make sick = () -> {
            Doublecoat x = with(1, 1, 1, 0, 1);
            x.sick(0, true);
            return x;
        };
        refused(STATE, sick, x -> x.night(0));
        Doublecoat well = sick.make();
        well.sick(0, false);
        due(well, 10, x -> x.night(0));
    }

    // ---- promise 12

    private void knocks() {
        check.says("knock", "Returns how many were REFUSED ever, with this.");
        Doublecoat x = new Doublecoat();
        Doublecoat other = new Doublecoat();
        for (int n = 1; n <= 255; n++) {
            due(x, n, y -> y.knock());
            due(x, n, y -> y.house(13));
        }
        due(other, 1, y -> y.knock());
    }
}
