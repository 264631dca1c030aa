import java.lang.reflect.Field;

/**
 * Whether isSound() tells of what is not sound. No run of calls comes there, so each object is spoilt behind the
 * face, by the names of its private fields, and mended again. (FILLED and LACK are not kept, and cannot be spoilt.)
 */
public final class SoundTest {
    private static final int NONE = -1;

    private final Check check = new Check("SoundTest");

    public static void main(String[] args) throws ReflectiveOperationException {
        SoundTest test = new SoundTest();
        test.purses();
        test.debts();
        test.clashes();
        test.castAndCut();
        test.cutWithoutCast();
        test.check.end();
    }

    // ---- what is spoilt

    private void purses() throws ReflectiveOperationException {
        Doublecoat x = paid();
        for (String kept : new String[] {"takenIn", "paid"}) {
            for (int more : new int[] {1, -1, 1 << 20}) {
                spoilt(x, x, kept, number(x, kept) + more);
            }
        }
        int[] purse = row(part(x, "company"), "purse");
        for (int player = 0; player < 2; player++) {
            purse[player]++;
            sound(x, false);
            purse[player]--;
            sound(x, true);
        }
        // from one purse to another nothing is lost
        purse[0]--;
        purse[1]++;
        sound(x, true);
    }

    private void debts() throws ReflectiveOperationException {
        Doublecoat x = paid();
        int[] purse = row(part(x, "company"), "purse");
        int all = purse[0] + purse[1];
        for (int player = 0; player < 2; player++) {
            purse[player] = -1;
            purse[1 - player] = all + 1;
            sound(x, false);
            purse[player] = 0;
            purse[1 - player] = all;
            sound(x, true);
        }
    }

    private void clashes() throws ReflectiveOperationException {
        Doublecoat x = paid();
        int[] roles = row(part(x, "casting"), "bestRoles");
        for (int player = 0; player < 2; player++) {
            roles[player] = 3;
            roles[1 - player] = 4;
            sound(x, false);
        }
        roles[0] = 5;
        roles[1] = 2;
        sound(x, true);
    }

    private void castAndCut() throws ReflectiveOperationException {
        Doublecoat x = paid();
        for (int cut = 1; cut <= 3; cut++) {
            spoilt(x, part(x, "casting"), "cut", cut);
        }
    }

    private void cutWithoutCast() throws ReflectiveOperationException {
        Doublecoat x = paid();
        x.sick(0, true);
        check.due(NONE, () -> x.house(7));
        spoilt(x, part(x, "casting"), "cut", 0);
    }

    // ---- how it is spoilt

    /** Two players with a part each who clash, a third part of the first one's, purses, and all that is kept known. */
    private Doublecoat paid() {
        Doublecoat x = new Doublecoat();
        for (int k = 0; k < 3; k++) x.part(0, 0, 0);
        for (int k = 0; k < 2; k++) x.player(1, 5, 1);
        x.scene(3, 9);
        x.scene(4, 9);
        x.coat(0, 5, 10);
        x.town(1, 1, 50);
        x.pawn(0, 0);
        x.night(0);
        x.redeem(0, 0);
        check.due("010", () -> x.cast());
        sound(x, true);
        return x;
    }

    private void spoilt(Doublecoat x, Object in, String kept, int wrong) throws ReflectiveOperationException {
        int before = number(in, kept);
        field(in, kept).setInt(in, wrong);
        sound(x, false);
        field(in, kept).setInt(in, before);
        sound(x, true);
    }

    private void sound(Doublecoat x, boolean due) {
        check.due(due, () -> x.isSound());
    }

    private static Object part(Object in, String name) throws ReflectiveOperationException {
        return field(in, name).get(in);
    }

    private static int number(Object in, String name) throws ReflectiveOperationException {
        return field(in, name).getInt(in);
    }

    private static int[] row(Object in, String name) throws ReflectiveOperationException {
        return (int[]) field(in, name).get(in);
    }

    private static Field field(Object in, String name) throws ReflectiveOperationException {
        Field field = in.getClass().getDeclaredField(name);
        field.setAccessible(true);
        return field;
    }
}
