/** Promise 7 (rights): the four tables of CAPS. */
public final class RightsTableTest {
    private static final Checks CHECKS = new Checks();
    private static final String CAPS = "itrvb";

    // A row for each CAP a, a letter for each CAP b: i iso, t trn, r ref, v val, b box, - NONE.
    private static final String[] AS_GOOD = {"11111", "01111", "00101", "00011", "00001"};
    private static final String[] SEEN = {"i--v-", "ibbvb", "itrvb", "vvvvv", "-bbvb"};
    private static final String[] SWAPPED = {"i--v-", "ibbvb", "itrvb", "-----", "-----"};
    private static final String[] SAFE = {"10010", "11010", "11111", "00000", "00000"};

    public static void main(String[] args) {
        ActorHouse house = new ActorHouse();
        table(house, 0, AS_GOOD);
        table(house, 1, SEEN);
        table(house, 2, SWAPPED);
        table(house, 3, SAFE);
        wrongNumbers(house);
        programsFollowTheTables();
        CHECKS.finish();
    }

    private static void table(ActorHouse house, int what, String[] due) {
        for (int a = 0; a < 5; a++) {
            for (int b = 0; b < 5; b++) {
                char c = due[a].charAt(b);
                int number = c == '0' || c == '1' ? c - '0' : CAPS.indexOf(c);
                CHECKS.same("rights(" + what + ", " + a + ", " + b + ")", house.rights(what, a, b), number);
            }
        }
    }

    private static void wrongNumbers(ActorHouse house) {
        int[] wrong = {-1, 5, 6, 100, Integer.MIN_VALUE, Integer.MAX_VALUE};
        for (int number : wrong) {
            for (int what = 0; what < 4; what++) {
                CHECKS.same("rights of a " + number, house.rights(what, number, 2), -1);
                CHECKS.same("rights of b " + number, house.rights(what, 2, number), -1);
            }
            if (number != 100) {
                CHECKS.same("rights of what " + number, house.rights(number, 2, 2), -1);
            }
        }
        CHECKS.same("rights of what 4", house.rights(4, 0, 0), -1);
    }

    /** The same tables, asked of the checker. */
    private static void programsFollowTheTables() {
        String[] caps = {"iso", "trn", "ref", "val", "box"};
        for (int a = 0; a < 5; a++) {
            for (int b = 0; b < 5; b++) {
                String fits = "class A{new(){}}actor Main{new(){var x:" + caps[b] + " A=^new " + caps[a] + " A();}}";
                CHECKS.verdict(AS_GOOD[a].charAt(b) == '1', 6, fits);
                String seen = "class B{new(){}}class A{var f:" + caps[b] + " B;new(){}fun ref u(x:" + caps[a]
                    + " A){x.^f;}}actor Main{new(){}}";
                CHECKS.verdict(SEEN[a].charAt(b) != '-', 6, seen);
                String swapped = "class B{new(){}}class A{var f:" + caps[b] + " B;new(){}fun ref u(x:" + caps[a]
                    + " A){swap(x.^f,none);}}actor Main{new(){}}";
                CHECKS.verdict(SWAPPED[a].charAt(b) != '-', 6, swapped);
                if (a < 3) {
                    String safe = "class B{new(){}}class A{var f:box B;new(){}fun ref u(x:" + caps[a] + " A,y:"
                        + caps[b] + " B){x.f=^consume y;}}actor Main{new(){}}";
                    CHECKS.verdict(SAFE[a].charAt(b) == '1', 6, safe);
                }
            }
        }
    }
}
