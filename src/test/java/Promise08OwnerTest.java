/** Promise 8: which request has an id of a port. */
public final class Promise08OwnerTest {
    public static void main(String[] args) {
        masterAndSource();
        idIsHeldUntilTheAnswerIsInTheBox();
        leastFreeIdIsTaken();
        wrongInputs();
        Check.end();
    }

    private static void masterAndSource() {
        for (int m = 0; m < 3; m++) {
            for (int source = 0; source < 8; source++) {
                MessageCrossbar x = new MessageCrossbar();
                Check.get(x, m, source, 600);
                Check.due("owner before the request left", x.owner(2, 0), -1);
                x.tick(1);
                Check.due("owner(2, 0)", x.owner(2, 0), 8 * m + source);
                Check.due("owner(2, 1)", x.owner(2, 1), -1);
                Check.due("owner(0, 0)", x.owner(0, 0), -1);
            }
        }
    }

    private static void idIsHeldUntilTheAnswerIsInTheBox() {
        MessageCrossbar x = new MessageCrossbar();
        x.accept(2, false);
        Check.get(x, 2, 7, 256);
        x.tick(30);
        Check.due("owner while the answer is in the port", x.owner(1, 0), 23);
        x.accept(2, true);
        x.tick(1);
        Check.due("owner when the answer is in the box", x.owner(1, 0), -1);
    }

    private static void leastFreeIdIsTaken() {
        MessageCrossbar x = new MessageCrossbar();
        x.accept(0, false);
        Check.get(x, 1, 0, 256);
        x.tick(1);
        Check.get(x, 0, 1, 256);
        Check.get(x, 0, 2, 256);
        x.tick(6);
        Check.due("owner(1, 0), free again", x.owner(1, 0), -1);
        Check.due("owner(1, 1)", x.owner(1, 1), 1);
        Check.due("owner(1, 2)", x.owner(1, 2), 2);
        Check.get(x, 2, 3, 256);
        Check.get(x, 2, 4, 256);
        x.tick(2);
        Check.due("owner(1, 0), taken by the next", x.owner(1, 0), 19);
        Check.due("owner(1, 3), taken then", x.owner(1, 3), 20);
    }

    private static void wrongInputs() {
        MessageCrossbar x = new MessageCrossbar();
        for (int wrong : new int[] {-1, 4, Integer.MIN_VALUE, Integer.MAX_VALUE}) {
            Check.refused("owner(" + wrong + ", 0)", Check.INDEX, () -> x.owner(wrong, 0));
            Check.refused("owner(0, " + wrong + ")", Check.INDEX, () -> x.owner(0, wrong));
            Check.refused("owner twice " + wrong, Check.INDEX, () -> x.owner(wrong, wrong));
        }
        Check.due("owner(3, 3)", x.owner(3, 3), -1);
    }
}
