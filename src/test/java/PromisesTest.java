/** Promise by promise: ordinary inputs, the edges that the document names, and wrong inputs. */
public final class PromisesTest {
    private static final int NONE = -1;
    private static final int LEAST = Integer.MIN_VALUE;
    private static final int MOST = Integer.MAX_VALUE;

    private final Check check = new Check("PromisesTest");

    public static void main(String[] args) {
        PromisesTest test = new PromisesTest();
        test.promise1();
        test.promise2();
        test.promise3();
        test.promise4();
        test.promise5();
        test.promise6();
        test.promise7();
        test.promise8();
        test.promise9();
        test.promise10();
        test.promise11();
        test.promise11Rests();
        test.promise11Alone();
        test.promise12();
        test.promise13();
        test.promise13Clashes();
        test.promise14();
        test.promise15();
        test.promise15Lack();
        test.promise15Dress();
        test.promise16();
        test.promise17();
        test.promise18();
        test.promise18Cut();
        test.promise19();
        test.promise20();
        test.promise20LikeTours();
        test.promise21();
        test.promise22();
        test.promise23();
        test.promise24();
        test.promise25();
        test.askedFirst();
        test.check.end();
    }

    // ---- objects that several promises begin with

    /** Parts as told by voices, each of rank 0 and change 0. */
    private static Doublecoat withParts(int... voices) {
        Doublecoat x = new Doublecoat();
        for (int voice : voices) {
            x.part(voice, 0, 0);
        }
        return x;
    }

    private static void addPlayers(Doublecoat x, int... voices) {
        for (int set : voices) {
            x.player(set, 5, 1);
        }
    }

    /** One part, one scene with it, and players of these shares; all of them could play it. */
    private static Doublecoat withShares(int... shares) {
        Doublecoat x = new Doublecoat();
        int all = 0;
        for (int share : shares) {
            all |= 1 << x.part(0, 0, 0);
            x.player(1, 5, share);
        }
        x.scene(all, 0);
        return x;
    }

    /** A call that throws changes nothing. */
    private void same(Doublecoat x, long before) {
        check.due(before, () -> x.digest());
    }

    private void dueAll(Doublecoat x, String cast, int count, int cut) {
        check.due(cast, () -> x.cast());
        check.due(count, () -> x.house(7));
        check.due(cut, () -> x.house(8));
    }

    // ---- promises

    private void promise1() {
        Doublecoat x = new Doublecoat();
        for (int what = 0; what <= 13; what++) {
            int asked = what;
            check.due(0, () -> x.house(asked));
        }
        check.due("", () -> x.cast());
        check.due(0, () -> x.tour(2000, 0));
        check.due(0, () -> x.would(0));
        check.due(true, () -> x.isSound());
        check.index(() -> x.ofPlayer(0, 0));
        Doublecoat other = new Doublecoat();
        other.part(0, 0, 0);
        other.knock();
        check.due(0, () -> x.house(0));
        check.due(0, () -> x.house(13));
    }

    private void promise2() {
        Doublecoat x = new Doublecoat();
        check.due(0, () -> x.part(3, 2, 9));
        check.due(1, () -> x.part(0, 3, 0));
        check.due(3, () -> x.ofPart(0, 0));
        check.due(2, () -> x.ofPart(0, 1));
        check.due(9, () -> x.ofPart(0, 2));
        check.due(0, () -> x.ofPart(1, 0));
        check.due(3, () -> x.ofPart(1, 1));
        check.due(0, () -> x.ofPart(1, 2));
        long before = x.digest();
        for (int wrong : new int[] {-1, 4, LEAST, MOST}) {
            check.argument(() -> x.part(wrong, 0, 0));
            check.argument(() -> x.part(0, wrong, 0));
        }
        for (int wrong : new int[] {-1, 10, LEAST, MOST}) {
            check.argument(() -> x.part(0, 0, wrong));
        }
        same(x, before);
        for (int number = 2; number < 7; number++) {
            int due = number;
            check.due(due, () -> x.part(1, 1, 1));
        }
        long full = x.digest();
        check.state(() -> x.part(1, 1, 1));
        check.argument(() -> x.part(4, 1, 1));
        check.argument(() -> x.part(1, 4, 1));
        check.argument(() -> x.part(1, 1, 10));
        same(x, full);
        check.due(7, () -> x.house(0));
        check.due(".......", () -> x.cast());
    }

    private void promise3() {
        Doublecoat x = new Doublecoat();
        check.due(0, () -> x.player(15, 9, 5));
        check.due(1, () -> x.player(0, 1, 1));
        check.due(15, () -> x.ofPlayer(0, 0));
        check.due(9, () -> x.ofPlayer(0, 1));
        check.due(5, () -> x.ofPlayer(0, 2));
        check.due(0, () -> x.ofPlayer(0, 3));
        check.due(0, () -> x.ofPlayer(0, 5));
        check.due(0, () -> x.ofPlayer(1, 0));
        long before = x.digest();
        for (int wrong : new int[] {-1, 16, LEAST, MOST}) {
            check.argument(() -> x.player(wrong, 1, 1));
        }
        for (int wrong : new int[] {0, -1, 10, LEAST, MOST}) {
            check.argument(() -> x.player(1, wrong, 1));
        }
        for (int wrong : new int[] {0, -1, 6, LEAST, MOST}) {
            check.argument(() -> x.player(1, 1, wrong));
        }
        same(x, before);
        for (int number = 2; number < 5; number++) {
            int due = number;
            check.due(due, () -> x.player(1, 1, 1));
        }
        long full = x.digest();
        check.state(() -> x.player(1, 1, 1));
        check.argument(() -> x.player(16, 1, 1));
        check.argument(() -> x.player(1, 0, 1));
        check.argument(() -> x.player(1, 1, 6));
        same(x, full);
        check.due(5, () -> x.house(1));
    }

    private void promise4() {
        Doublecoat x = new Doublecoat();
        check.argument(() -> x.scene(1, 0));
        check.argument(() -> x.scene(0, 0));
        x.part(0, 0, 0);
        x.part(0, 0, 0);
        check.due(0, () -> x.scene(3, 9));
        check.due(1, () -> x.scene(2, 0));
        check.due(3, () -> x.ofScene(0, 0));
        check.due(9, () -> x.ofScene(0, 1));
        check.due(2, () -> x.ofScene(1, 0));
        check.due(0, () -> x.ofScene(1, 1));
        long before = x.digest();
        for (int wrong : new int[] {0, 4, 5, -1, 127, 128, LEAST, MOST}) {
            check.argument(() -> x.scene(wrong, 0));
        }
        for (int wrong : new int[] {-1, 10, LEAST, MOST}) {
            check.argument(() -> x.scene(1, wrong));
        }
        same(x, before);
        for (int number = 2; number < 6; number++) {
            int due = number;
            check.due(due, () -> x.scene(1, 1));
        }
        long full = x.digest();
        check.state(() -> x.scene(1, 1));
        check.argument(() -> x.scene(4, 1));
        check.argument(() -> x.scene(1, 10));
        same(x, full);
        check.due(6, () -> x.house(3));
        Doublecoat all = withParts(0, 0, 0, 0, 0, 0, 0);
        check.argument(() -> all.scene(128, 0));
        check.due(0, () -> all.scene(127, 0));
    }

    private void promise5() {
        Doublecoat x = withParts(0);
        check.index(() -> x.pause(0, 0));
        x.scene(1, 4);
        check.due(4, () -> x.pause(0, 0));
        check.due(0, () -> x.pause(0, 9));
        check.due(9, () -> x.ofScene(0, 1));
        long before = x.digest();
        check.argument(() -> x.pause(0, -1));
        check.argument(() -> x.pause(0, 10));
        check.argument(() -> x.pause(0, LEAST));
        check.index(() -> x.pause(1, 10));
        check.index(() -> x.pause(-1, 0));
        check.index(() -> x.pause(LEAST, 0));
        check.index(() -> x.pause(MOST, 0));
        same(x, before);
        Doublecoat y = new Doublecoat();
        y.part(0, 0, 3);
        y.part(0, 0, 4);
        addPlayers(y, 1);
        y.scene(1, 6);
        y.scene(2, 0);
        dueAll(y, "none", NONE, 1);
        check.due(6, () -> y.pause(0, 7));
        dueAll(y, "00", 1, 0);
        check.due(7, () -> y.pause(0, 6));
        dueAll(y, "none", NONE, 1);
    }

    private void promise6() {
        Doublecoat x = withParts(0);
        check.index(() -> x.sick(0, true));
        addPlayers(x, 1, 1, 1);
        x.scene(1, 0);
        check.due("0", () -> x.cast());
        check.due(2, () -> x.sick(0, true));
        check.due(1, () -> x.ofPlayer(0, 3));
        check.due("1", () -> x.cast());
        check.due(2, () -> x.sick(0, true));
        check.due(1, () -> x.sick(2, true));
        check.due("1", () -> x.cast());
        check.due(0, () -> x.sick(1, true));
        dueAll(x, "none", NONE, 1);
        check.due(1, () -> x.sick(2, false));
        check.due(1, () -> x.sick(2, false));
        check.due("2", () -> x.cast());
        check.due(0, () -> x.ofPlayer(2, 3));
        long before = x.digest();
        check.index(() -> x.sick(3, true));
        check.index(() -> x.sick(-1, false));
        check.index(() -> x.sick(LEAST, true));
        check.index(() -> x.sick(MOST, true));
        same(x, before);
    }

    private void promise7() {
        Doublecoat x = new Doublecoat();
        check.due(0, () -> x.coat(3, 9, 99));
        check.due(1, () -> x.coat(0, 1, 1));
        check.due(3, () -> x.ofCoat(0, 0));
        check.due(9, () -> x.ofCoat(0, 1));
        check.due(99, () -> x.ofCoat(0, 2));
        check.due(0, () -> x.ofCoat(0, 3));
        check.due(0, () -> x.ofCoat(1, 0));
        check.due(1, () -> x.ofCoat(1, 1));
        check.due(1, () -> x.ofCoat(1, 2));
        long before = x.digest();
        for (int wrong : new int[] {-1, 4, LEAST, MOST}) {
            check.argument(() -> x.coat(wrong, 1, 1));
        }
        for (int wrong : new int[] {0, 10, LEAST, MOST}) {
            check.argument(() -> x.coat(0, wrong, 1));
        }
        for (int wrong : new int[] {0, 100, LEAST, MOST}) {
            check.argument(() -> x.coat(0, 1, wrong));
        }
        same(x, before);
        for (int number = 2; number < 6; number++) {
            int due = number;
            check.due(due, () -> x.coat(1, 1, 1));
        }
        long full = x.digest();
        check.state(() -> x.coat(1, 1, 1));
        check.argument(() -> x.coat(4, 1, 1));
        check.argument(() -> x.coat(1, 0, 1));
        check.argument(() -> x.coat(1, 1, 100));
        same(x, full);
        check.due(6, () -> x.house(4));
    }

    private void promise8() {
        Doublecoat x = new Doublecoat();
        x.coat(0, 5, 40);
        x.coat(0, 5, 7);
        check.index(() -> x.pawn(0, 0));
        addPlayers(x, 1, 1);
        x.sick(1, true);
        check.due(40, () -> x.pawn(0, 1));
        check.due(1, () -> x.ofCoat(0, 3));
        check.due(0, () -> x.ofCoat(1, 3));
        check.due(1, () -> x.house(5));
        long before = x.digest();
        check.state(() -> x.pawn(0, 1));
        check.state(() -> x.pawn(0, 0));
        check.index(() -> x.pawn(0, 2));
        check.index(() -> x.pawn(0, -1));
        check.index(() -> x.pawn(2, 0));
        check.index(() -> x.pawn(-1, 0));
        check.index(() -> x.pawn(MOST, LEAST));
        same(x, before);
        check.due(47, () -> x.pawn(1, 1));
        check.due(47, () -> x.ofPlayer(1, 5));
        check.due(0, () -> x.ofPlayer(0, 5));
        check.due(47, () -> x.house(9));
        check.due(47, () -> x.house(11));
        check.due(2, () -> x.house(5));
        Doublecoat nobody = new Doublecoat();
        addPlayers(nobody, 1);
        check.index(() -> nobody.pawn(0, 0));
    }

    private void promise9() {
        Doublecoat x = new Doublecoat();
        x.coat(0, 5, 39);
        x.coat(0, 5, 2);
        x.coat(0, 5, 1);
        x.coat(0, 5, 9);
        addPlayers(x, 1, 1);
        check.state(() -> x.redeem(0, 0));
        x.pawn(0, 0);
        check.state(() -> x.redeem(0, 0));
        x.pawn(1, 0);
        long before = x.digest();
        check.state(() -> x.redeem(0, 0));
        check.state(() -> x.redeem(0, 1));
        check.state(() -> x.redeem(3, 0));
        check.index(() -> x.redeem(4, 0));
        check.index(() -> x.redeem(-1, 0));
        check.index(() -> x.redeem(0, 2));
        check.index(() -> x.redeem(0, -1));
        check.index(() -> x.redeem(3, 2));
        check.index(() -> x.redeem(LEAST, MOST));
        same(x, before);
        x.pawn(2, 0);
        check.due(0, () -> x.redeem(0, 0));
        check.due(0, () -> x.ofCoat(0, 3));
        check.due(42, () -> x.house(9));
        check.due(42, () -> x.house(10));
        check.due(0, () -> x.house(11));
        check.due(2, () -> x.house(5));
        check.due(9, () -> x.pawn(3, 1));
        check.due(0, () -> x.redeem(3, 1));
        check.due(39, () -> x.pawn(0, 1));
        check.due(37, () -> x.redeem(1, 1));
        check.due(53, () -> x.house(10));
        check.due(true, () -> x.isSound());
    }

    private void promise10() {
        Doublecoat x = new Doublecoat();
        check.due(0, () -> x.town(99, 0, 999));
        check.due(1, () -> x.town(0, 99, 0));
        check.due(99, () -> x.ofTown(0, 0));
        check.due(0, () -> x.ofTown(0, 1));
        check.due(999, () -> x.ofTown(0, 2));
        check.due(0, () -> x.ofTown(1, 0));
        check.due(99, () -> x.ofTown(1, 1));
        check.due(0, () -> x.ofTown(1, 2));
        long before = x.digest();
        for (int wrong : new int[] {-1, 100, LEAST, MOST}) {
            check.argument(() -> x.town(wrong, 0, 0));
            check.argument(() -> x.town(0, wrong, 0));
        }
        for (int wrong : new int[] {-1, 1000, LEAST, MOST}) {
            check.argument(() -> x.town(0, 0, wrong));
        }
        same(x, before);
        for (int number = 2; number < 5; number++) {
            int due = number;
            check.due(due, () -> x.town(1, 1, 1));
        }
        long full = x.digest();
        check.state(() -> x.town(1, 1, 1));
        check.argument(() -> x.town(100, 1, 1));
        check.argument(() -> x.town(1, 100, 1));
        check.argument(() -> x.town(1, 1, 1000));
        same(x, full);
        check.due(5, () -> x.house(6));
    }

    private void promise11() {
        Doublecoat x = withParts(0, 0);
        check.index(() -> x.night(0));
        x.town(1, 1, 101);
        check.state(() -> x.night(0));
        addPlayers(x, 1);
        check.state(() -> x.night(0));
        x.scene(3, 0);
        long before = x.digest();
        check.state(() -> x.night(0));
        check.index(() -> x.night(1));
        check.index(() -> x.night(-1));
        check.index(() -> x.night(LEAST));
        check.index(() -> x.night(MOST));
        same(x, before);
        check.due(0, () -> x.house(12));
        addPlayers(x, 1, 1);
        check.due("01", () -> x.cast());
        check.due(101, () -> x.night(0));
        check.due(51, () -> x.ofPlayer(0, 5));
        check.due(50, () -> x.ofPlayer(1, 5));
        check.due(0, () -> x.ofPlayer(2, 5));
        check.due(50, () -> x.ofTown(0, 2));
        for (int due : new int[] {50, 25, 12, 6, 3, 1, 0, 0}) {
            check.due(due, () -> x.night(0));
        }
        check.due(9, () -> x.house(12));
        check.due(198, () -> x.house(9));
        check.due(198, () -> x.house(11));
        check.due(true, () -> x.isSound());
    }

    /** What is left goes one each by the rests, not by numbers, shares or purses. */
    private void promise11Rests() {
        Doublecoat x = withShares(1, 2, 4);
        x.town(0, 0, 10);
        check.due("012", () -> x.cast());
        check.due(10, () -> x.night(0));
        check.due(1, () -> x.ofPlayer(0, 5));
        check.due(3, () -> x.ofPlayer(1, 5));
        check.due(6, () -> x.ofPlayer(2, 5));
        Doublecoat y = withShares(1, 1, 1, 1, 1);
        y.town(0, 0, 993);
        y.night(0);
        int[] due = {199, 199, 199, 198, 198};
        for (int player = 0; player < 5; player++) {
            int asked = player;
            check.due(due[asked], () -> y.ofPlayer(asked, 5));
        }
    }

    private void promise11Alone() {
        Doublecoat x = withShares(1);
        x.town(0, 0, 7);
        check.due(7, () -> x.night(0));
        check.due(7, () -> x.ofPlayer(0, 5));
        // players without a part have nothing, wherever their numbers stand
        Doublecoat y = withParts(0, 1);
        addPlayers(y, 0, 1, 0, 2);
        y.scene(3, 0);
        y.town(0, 0, 9);
        check.due("13", () -> y.cast());
        check.due(9, () -> y.night(0));
        int[] due = {0, 5, 0, 4};
        for (int player = 0; player < 4; player++) {
            int asked = player;
            check.due(due[asked], () -> y.ofPlayer(asked, 5));
        }
    }

    private void promise12() {
        Doublecoat x = new Doublecoat();
        check.due(1, () -> x.knock());
        check.due(2, () -> x.knock());
        check.due(2, () -> x.house(13));
        check.due(3, () -> x.knock());
        check.due(3, () -> x.house(13));
    }

    private void promise13() {
        Doublecoat x = new Doublecoat();
        check.index(() -> x.ofPart(0, 0));
        x.part(2, 1, 3);
        x.part(1, 3, 8);
        x.part(1, 0, 0);
        int[] bare = {2, 1, 3, 0, 0, 0, NONE};
        for (int what = 0; what <= 6; what++) {
            int asked = what;
            check.due(bare[asked], () -> x.ofPart(0, asked));
        }
        addPlayers(x, 2, 6, 4, 15);
        x.sick(3, true);
        x.scene(1, 0);
        x.scene(2, 0);
        x.scene(3, 0);
        int[] full = {2, 1, 3, 5, 2, 6, 1};
        int[] next = {1, 3, 8, 6, 1, 3, 0};
        int[] idle = {1, 0, 0, 0, 0, 3, NONE};
        for (int what = 0; what <= 6; what++) {
            int asked = what;
            check.due(full[asked], () -> x.ofPart(0, asked));
            check.due(next[asked], () -> x.ofPart(1, asked));
            check.due(idle[asked], () -> x.ofPart(2, asked));
        }
        x.sick(1, true);
        x.sick(2, true);
        check.due(0, () -> x.ofPart(0, 5));
        check.due(NONE, () -> x.ofPart(1, 6));
        check.argument(() -> x.ofPart(0, 7));
        check.argument(() -> x.ofPart(0, -1));
        check.argument(() -> x.ofPart(0, LEAST));
        check.argument(() -> x.ofPart(0, MOST));
        check.index(() -> x.ofPart(3, 7));
        check.index(() -> x.ofPart(-1, 0));
        check.index(() -> x.ofPart(LEAST, 0));
        check.index(() -> x.ofPart(MOST, 0));
    }

    private void promise13Clashes() {
        Doublecoat x = new Doublecoat();
        x.part(0, 0, 2);
        x.part(0, 0, 3);
        x.part(0, 0, 9);
        x.part(0, 0, 0);
        x.scene(1, 4);
        x.scene(2, 9);
        x.scene(4, 0);
        x.scene(9, 9);
        int[] due = {2 + 4 + 8, 1 + 4, 2 + 8 + 1, 4 + 1};
        for (int part = 0; part < 4; part++) {
            int asked = part;
            check.due(due[asked], () -> x.ofPart(asked, 4));
        }
        x.pause(0, 5);
        check.due(4 + 8, () -> x.ofPart(0, 4));
        check.due(4, () -> x.ofPart(1, 4));
        x.pause(2, 9);
        check.due(4 + 8, () -> x.ofPart(0, 4));
        check.due(2 + 1, () -> x.ofPart(2, 4));
        Doublecoat last = new Doublecoat();
        last.part(0, 0, 9);
        last.part(0, 0, 9);
        last.scene(2, 0);
        check.due(0, () -> last.ofPart(1, 4));
        last.scene(2, 0);
        check.due(0, () -> last.ofPart(1, 4));
        last.scene(1, 0);
        check.due(1, () -> last.ofPart(1, 4));
        check.due(2, () -> last.ofPart(0, 4));
    }

    private void promise14() {
        Doublecoat x = withParts(0, 0, 1, 1);
        check.index(() -> x.ofPlayer(0, 0));
        x.player(1, 2, 3);
        x.player(2, 9, 5);
        x.sick(1, true);
        x.coat(0, 1, 12);
        x.pawn(0, 1);
        x.scene(1, 0);
        x.scene(2, 0);
        int[] first = {1, 2, 3, 0, 3, 0};
        int[] second = {2, 9, 5, 1, 0, 12};
        for (int what = 0; what <= 5; what++) {
            int asked = what;
            check.due(first[asked], () -> x.ofPlayer(0, asked));
            check.due(second[asked], () -> x.ofPlayer(1, asked));
        }
        x.scene(4, 0);
        check.due(0, () -> x.ofPlayer(0, 4));
        x.sick(1, false);
        check.due(3, () -> x.ofPlayer(0, 4));
        check.due(4, () -> x.ofPlayer(1, 4));
        check.argument(() -> x.ofPlayer(0, 6));
        check.argument(() -> x.ofPlayer(0, -1));
        check.argument(() -> x.ofPlayer(0, LEAST));
        check.argument(() -> x.ofPlayer(0, MOST));
        check.index(() -> x.ofPlayer(2, 6));
        check.index(() -> x.ofPlayer(-1, 0));
        check.index(() -> x.ofPlayer(LEAST, 0));
        check.index(() -> x.ofPlayer(MOST, 0));
    }

    private void promise15() {
        Doublecoat x = withParts(0, 1, 2);
        check.index(() -> x.ofScene(0, 0));
        x.scene(5, 3);
        int[] bare = {5, 3, 0, 5, 2, NONE};
        for (int what = 0; what <= 5; what++) {
            int asked = what;
            check.due(bare[asked], () -> x.ofScene(0, asked));
        }
        check.argument(() -> x.ofScene(0, 6));
        check.argument(() -> x.ofScene(0, -1));
        check.argument(() -> x.ofScene(0, LEAST));
        check.argument(() -> x.ofScene(0, MOST));
        check.index(() -> x.ofScene(1, 6));
        check.index(() -> x.ofScene(-1, 0));
        check.index(() -> x.ofScene(LEAST, 0));
        check.index(() -> x.ofScene(MOST, 0));
    }

    private void promise15Lack() {
        Doublecoat x = withParts(0, 1, 1, 1, 2);
        addPlayers(x, 3, 2, 4);
        x.scene(31, 0);
        x.scene(1, 0);
        x.scene(6, 0);
        x.scene(7, 0);
        // a voice that players 0 and 1 have: three parts, and the first one wants player 0 as well
        int[][] due = {{3, 14 + 1, 2}, {1, 0, 0}, {2, 0, 0}, {2, 7, 1}};
        for (int scene = 0; scene < 4; scene++) {
            for (int what = 2; what <= 4; what++) {
                int s = scene;
                int w = what;
                check.due(due[s][w - 2], () -> x.ofScene(s, w));
            }
        }
        x.sick(2, true);
        check.due(2, () -> x.ofScene(0, 2));
        check.due(31, () -> x.ofScene(0, 3));
        check.due(3, () -> x.ofScene(0, 4));
        // a greedy filling would give player 0 to part 0 and leave part 1 without one
        Doublecoat y = withParts(0, 1);
        addPlayers(y, 3, 1);
        y.scene(3, 0);
        check.due(2, () -> y.ofScene(0, 2));
        check.due(0, () -> y.ofScene(0, 3));
        // of several sets with as much excess that with the smallest number
        Doublecoat z = withParts(0, 0, 1);
        addPlayers(z, 1, 2);
        z.scene(7, 0);
        check.due(2, () -> z.ofScene(0, 2));
        check.due(3, () -> z.ofScene(0, 3));
        check.due(1, () -> z.ofScene(0, 4));
    }

    private void promise15Dress() {
        Doublecoat x = new Doublecoat();
        x.part(0, 1, 0);
        x.part(0, 2, 0);
        x.player(1, 5, 1);
        x.player(1, 7, 1);
        x.scene(3, 0);
        x.scene(2, 0);
        check.due(NONE, () -> x.ofScene(0, 5));
        x.coat(2, 6, 10);
        check.due(NONE, () -> x.ofScene(0, 5));
        check.due(1, () -> x.ofScene(1, 5));
        x.coat(3, 5, 10);
        // coat 0 on part 0 with coat 1 on part 1 wastes 2 + 3, the other way round 2 + 1
        check.due("01", () -> x.cast());
        check.due(3, () -> x.ofScene(0, 5));
        x.coat(1, 8, 10);
        check.due(3, () -> x.ofScene(0, 5));
        x.coat(1, 3, 10);
        check.due(3, () -> x.ofScene(0, 5));
        x.coat(1, 4, 10);
        check.due(2, () -> x.ofScene(0, 5));
        x.pawn(0, 0);
        check.due(4, () -> x.ofScene(0, 5));
        check.due(3, () -> x.ofScene(1, 5));
        x.pawn(1, 0);
        check.due(NONE, () -> x.ofScene(0, 5));
        x.redeem(0, 0);
        check.due(2, () -> x.ofScene(0, 5));
        x.sick(0, true);
        check.due(NONE, () -> x.ofScene(1, 5));
    }

    private void promise16() {
        Doublecoat x = new Doublecoat();
        check.index(() -> x.ofCoat(0, 0));
        addPlayers(x, 1);
        x.coat(2, 3, 4);
        x.coat(1, 9, 50);
        x.pawn(1, 0);
        int[] first = {2, 3, 4, 0};
        int[] second = {1, 9, 50, 1};
        for (int what = 0; what <= 3; what++) {
            int asked = what;
            check.due(first[asked], () -> x.ofCoat(0, asked));
            check.due(second[asked], () -> x.ofCoat(1, asked));
        }
        check.argument(() -> x.ofCoat(0, 4));
        check.argument(() -> x.ofCoat(0, -1));
        check.argument(() -> x.ofCoat(0, LEAST));
        check.argument(() -> x.ofCoat(0, MOST));
        check.index(() -> x.ofCoat(2, 4));
        check.index(() -> x.ofCoat(-1, 0));
        check.index(() -> x.ofCoat(LEAST, 0));
        check.index(() -> x.ofCoat(MOST, 0));
    }

    private void promise17() {
        Doublecoat x = new Doublecoat();
        check.index(() -> x.ofTown(0, 0));
        x.town(12, 34, 567);
        x.town(99, 99, 8);
        int[] first = {12, 34, 567, 46};
        int[] second = {99, 99, 8, 198};
        for (int what = 0; what <= 3; what++) {
            int asked = what;
            check.due(first[asked], () -> x.ofTown(0, asked));
            check.due(second[asked], () -> x.ofTown(1, asked));
        }
        check.argument(() -> x.ofTown(0, 4));
        check.argument(() -> x.ofTown(0, -1));
        check.argument(() -> x.ofTown(0, LEAST));
        check.argument(() -> x.ofTown(0, MOST));
        check.index(() -> x.ofTown(2, 4));
        check.index(() -> x.ofTown(-1, 0));
        check.index(() -> x.ofTown(LEAST, 0));
        check.index(() -> x.ofTown(MOST, 0));
    }

    private void promise18() {
        Doublecoat x = withParts(0, 0, 0, 1);
        addPlayers(x, 1, 1, 1);
        x.sick(2, true);
        x.scene(3, 0);
        x.scene(4, 9);
        x.coat(0, 5, 30);
        x.coat(0, 5, 10);
        x.coat(0, 5, 20);
        x.pawn(0, 0);
        x.pawn(1, 1);
        x.town(1, 2, 55);
        x.night(0);
        x.redeem(0, 0);
        x.knock();
        int[] due = {4, 3, 2, 2, 3, 1, 1, 2, 0, 95, 33, 62, 1, 1};
        for (int what = 0; what <= 13; what++) {
            int asked = what;
            check.due(due[asked], () -> x.house(asked));
        }
        check.argument(() -> x.house(-1));
        check.argument(() -> x.house(14));
        check.argument(() -> x.house(LEAST));
        check.argument(() -> x.house(MOST));
    }

    private void promise18Cut() {
        // two parts that one player cannot change between: the smaller number of like cuts
        Doublecoat x = new Doublecoat();
        x.part(0, 0, 5);
        x.part(0, 0, 5);
        x.part(1, 0, 0);
        addPlayers(x, 1);
        x.scene(1, 9);
        x.scene(2, 0);
        dueAll(x, "none", NONE, 1);
        // without the scene between them, the pause behind the first one counts
        Doublecoat y = new Doublecoat();
        y.part(0, 0, 5);
        y.part(1, 0, 0);
        y.part(0, 0, 4);
        addPlayers(y, 1);
        y.scene(1, 9);
        y.scene(2, 0);
        y.scene(4, 0);
        dueAll(y, "none", NONE, 2);
        y.pause(0, 8);
        check.due(NONE, () -> y.would(2));
        dueAll(y, "none", NONE, 3);
    }

    private void promise19() {
        Doublecoat x = withParts(0, 0, 1);
        check.due("...", () -> x.cast());
        addPlayers(x, 2, 1, 3);
        x.scene(1, 0);
        check.due("1..", () -> x.cast());
        // both parts 0 and 2 by player 2, rather than by players 1 and 0
        x.scene(4, 0);
        check.due("2.2", () -> x.cast());
        x.scene(7, 0);
        check.due("120", () -> x.cast());
        x.sick(0, true);
        check.due("none", () -> x.cast());
        // as few players, and the first parts by the smaller numbers
        Doublecoat y = withParts(0, 0, 0);
        addPlayers(y, 1, 1, 1);
        y.scene(5, 0);
        y.scene(2, 0);
        check.due("001", () -> y.cast());
    }

    private void promise20() {
        Doublecoat x = new Doublecoat();
        check.due(0, () -> x.tour(0, 0));
        check.due(0, () -> x.tour(2000, 1));
        check.due(0, () -> x.tour(2000, 2));
        x.town(10, 0, 100);
        x.town(0, 10, 150);
        x.town(10, 10, 40);
        int[][] due = {{19, 0, 0, 0}, {20, 2, 150, 20}, {39, 2, 150, 20}, {40, 7, 290, 40}, {2000, 7, 290, 40}};
        for (int[] row : due) {
            for (int what = 0; what <= 2; what++) {
                int asked = what;
                check.due(row[asked + 1], () -> x.tour(row[0], asked));
            }
        }
        long before = x.digest();
        check.argument(() -> x.tour(-1, 0));
        check.argument(() -> x.tour(2001, 0));
        check.argument(() -> x.tour(LEAST, 0));
        check.argument(() -> x.tour(MOST, 0));
        check.argument(() -> x.tour(0, -1));
        check.argument(() -> x.tour(0, 3));
        check.argument(() -> x.tour(0, LEAST));
        check.argument(() -> x.tour(0, MOST));
        same(x, before);
    }

    private void promise20LikeTours() {
        // as much takings: the fewest miles, then the smallest number
        Doublecoat x = new Doublecoat();
        x.town(0, 8, 50);
        x.town(7, 0, 50);
        x.town(0, 7, 50);
        check.due(2, () -> x.tour(15, 0));
        check.due(14, () -> x.tour(15, 2));
        check.due(5, () -> x.tour(29, 0));
        check.due(16, () -> x.tour(29, 2));
        // fewer miles are no reason to take less
        Doublecoat less = new Doublecoat();
        less.town(10, 0, 100);
        less.town(0, 1, 50);
        check.due(1, () -> less.tour(20, 0));
        check.due(2, () -> less.tour(19, 0));
        check.due(3, () -> less.tour(22, 0));
        // a town that pays nothing is left out, on the way or at home too
        Doublecoat y = new Doublecoat();
        y.town(0, 0, 0);
        y.town(5, 5, 0);
        y.town(9, 9, 9);
        check.due(4, () -> y.tour(36, 0));
        check.due(0, () -> y.tour(35, 0));
        // the order of the numbers is not the shortest one
        Doublecoat z = new Doublecoat();
        z.town(90, 0, 1);
        z.town(0, 90, 1);
        z.town(90, 1, 1);
        z.town(1, 90, 1);
        z.town(45, 45, 1);
        check.due(360, () -> z.tour(2000, 2));
        check.due(31, () -> z.tour(360, 0));
        check.due(3, () -> z.tour(359, 1));
        check.due(21, () -> z.tour(359, 0));
        check.due(270, () -> z.tour(359, 2));
    }

    private void promise21() {
        Doublecoat x = withParts(0, 0, 1);
        check.due(0, () -> x.would(0));
        check.argument(() -> x.would(1));
        addPlayers(x, 1, 1);
        x.scene(3, 0);
        x.scene(4, 0);
        x.scene(1, 0);
        int[] due = {NONE, NONE, 2, 1, NONE, NONE, 2, 0};
        for (int set = 0; set < 8; set++) {
            int left = set;
            check.due(due[left], () -> x.would(left));
        }
        long before = x.digest();
        check.argument(() -> x.would(8));
        check.argument(() -> x.would(-1));
        check.argument(() -> x.would(LEAST));
        check.argument(() -> x.would(MOST));
        same(x, before);
        check.due(2, () -> x.house(8));
        // scenes that are no neighbours become some when what is between them is left out
        Doublecoat y = new Doublecoat();
        y.part(0, 0, 4);
        y.part(1, 0, 0);
        y.part(0, 0, 4);
        addPlayers(y, 3, 1);
        y.scene(1, 7);
        y.scene(2, 9);
        y.scene(4, 0);
        check.due(1, () -> y.would(0));
        check.due(2, () -> y.would(2));
        y.pause(0, 8);
        check.due(1, () -> y.would(2));
    }

    private void promise22() {
        Doublecoat x = withParts(0, 1);
        check.index(() -> x.without(0));
        addPlayers(x, 3, 1, 2);
        check.due(0, () -> x.without(0));
        x.scene(1, 0);
        x.scene(2, 0);
        long before = x.digest();
        check.due(2, () -> x.without(0));
        check.due(1, () -> x.without(1));
        check.due("00", () -> x.cast());
        check.due(0, () -> x.ofPlayer(0, 3));
        same(x, before);
        x.sick(1, true);
        check.due(NONE, () -> x.without(0));
        check.due(1, () -> x.without(1));
        check.due(1, () -> x.ofPlayer(1, 3));
        check.due(1, () -> x.without(2));
        check.index(() -> x.without(3));
        check.index(() -> x.without(-1));
        check.index(() -> x.without(LEAST));
        check.index(() -> x.without(MOST));
    }

    private void promise23() {
        Doublecoat x = withShares(2, 3, 5);
        x.player(1, 5, 5);
        // of 7: 14, 21 and 35 by 10, so that 1 is left for the greatest rest
        int[][] due = {{0, 0, 0, 0}, {1, 0, 0, 1}, {2, 0, 1, 1}, {7, 1, 2, 4}, {9999, 2000, 3000, 4999}};
        for (int[] row : due) {
            for (int player = 0; player < 3; player++) {
                int asked = player;
                check.due(row[asked + 1], () -> x.shareOf(row[0], asked));
            }
            check.due(0, () -> x.shareOf(row[0], 3));
        }
        long before = x.digest();
        check.argument(() -> x.shareOf(-1, 0));
        check.argument(() -> x.shareOf(10000, 0));
        check.argument(() -> x.shareOf(LEAST, 0));
        check.argument(() -> x.shareOf(MOST, 0));
        check.index(() -> x.shareOf(-1, 4));
        check.index(() -> x.shareOf(0, -1));
        check.index(() -> x.shareOf(10000, LEAST));
        check.index(() -> x.shareOf(0, MOST));
        same(x, before);
        x.sick(0, true);
        x.sick(1, true);
        check.due(0, () -> x.shareOf(100, 2));
        Doublecoat nobody = new Doublecoat();
        check.index(() -> nobody.shareOf(-1, 0));
        addPlayers(nobody, 1);
        check.due(0, () -> nobody.shareOf(9999, 0));
    }

    private void promise24() {
        Doublecoat x = withParts(0, 1, 2);
        check.due(true, () -> x.isSound());
        x.scene(7, 0);
        check.due(true, () -> x.isSound());
        addPlayers(x, 7, 7, 7);
        x.coat(0, 5, 50);
        x.pawn(0, 1);
        x.town(3, 3, 77);
        x.night(0);
        check.due(true, () -> x.isSound());
        x.redeem(0, 1);
        x.sick(1, true);
        check.due(true, () -> x.isSound());
    }

    private void promise25() {
        Doublecoat x = new Doublecoat();
        check.due(7639546369218318892L, () -> x.digest());
        check.due(7639546369218318892L, () -> x.digest());
        Doublecoat y = withShares(2, 3, 5);
        y.scene(2, 5);
        y.coat(1, 5, 40);
        y.coat(2, 6, 20);
        y.coat(0, 4, 10);
        y.pawn(1, 2);
        y.town(30, 40, 101);
        y.town(50, 50, 999);
        y.night(0);
        y.knock();
        check.due(digestByHand(y), () -> y.digest());
        y.sick(0, true);
        check.due(digestByHand(y), () -> y.digest());
    }

    private static long digestByHand(Doublecoat x) {
        long d = 8117;
        for (int k = 0; k < 14; k++) d = d * 31 + x.house(k);
        for (int p = 0; p < x.house(0); p++) for (int k = 0; k < 7; k++) d = d * 31 + x.ofPart(p, k);
        for (int p = 0; p < x.house(1); p++) {
            for (int k = 0; k < 6; k++) d = d * 31 + x.ofPlayer(p, k);
            d = (d * 31 + x.without(p)) * 31 + x.shareOf(100, p);
        }
        for (int s = 0; s < x.house(3); s++) for (int k = 0; k < 6; k++) d = d * 31 + x.ofScene(s, k);
        for (int c = 0; c < x.house(4); c++) d = d * 31 + x.ofCoat(c, 3);
        for (int t = 0; t < x.house(6); t++) d = (d * 31 + x.ofTown(t, 2)) * 31 + x.ofTown(t, 3);
        for (int k = 0; k < 3; k++) d = d * 31 + x.tour(150, k);
        d = d * 31 + x.cast().length();
        return d * 31 + (x.isSound() ? 1 : 0);
    }

    /** Each question that looks at the best cast is asked as the first one behind a change. */
    private void askedFirst() {
        for (int question = 0; question < 9; question++) {
            Doublecoat x = withParts(0, 1);
            Object[] due = {0, 0, "..", 0, 0, -1, -1, true, 0};
            check.due("question " + question + " at first", due[question], ask(question, x));
            addPlayers(x, 1);
            x.scene(2, 9);
            due = new Object[] {NONE, 1, "none", 0, NONE, NONE, NONE, true, 0};
            check.due("question " + question + " without a cast", due[question], ask(question, x));
            addPlayers(x, 3);
            x.coat(0, 5, 10);
            due = new Object[] {1, 0, ".1", 2, 1, 0, 1, true, 100};
            check.due("question " + question + " with a cast", due[question], ask(question, x));
            x.sick(1, true);
            due = new Object[] {NONE, 1, "none", 0, NONE, NONE, NONE, true, 0};
            check.due("question " + question + " with a sick one", due[question], ask(question, x));
            x.sick(1, false);
            due = new Object[] {1, 0, ".1", 2, 1, 0, 1, true, 100};
            check.due("question " + question + " with all well", due[question], ask(question, x));
        }
    }

    private static Check.Call ask(int question, Doublecoat x) {
        int last = x.house(1) - 1;
        switch (question) {
            case 0: return () -> x.house(7);
            case 1: return () -> x.house(8);
            case 2: return () -> x.cast();
            case 3: return () -> last < 0 ? 0 : x.ofPlayer(last, 4);
            case 4: return () -> x.would(0);
            case 5: return () -> x.house(3) == 0 ? NONE : x.ofScene(0, 5);
            case 6: return () -> x.ofPart(1, 6);
            case 7: return () -> x.isSound();
            default: return () -> last < 0 ? 0 : x.shareOf(100, last);
        }
    }
}
