import java.util.NoSuchElementException;

/** Promises 50 to 52. */
public final class OutputTest {
    private static final Class<IndexOutOfBoundsException> NO_BIN = IndexOutOfBoundsException.class;
    private static final Class<NoSuchElementException> NONE = NoSuchElementException.class;

    public static void main(String[] args) {
        promise50WriteBin();
        promise50LongIds();
        promise51WriteSack();
        promise52OutputAt();
        Check.end();
    }

    private static void promise50WriteBin() {
        SighGranary x = new SighGranary();
        Check.fails("50: no bin", NO_BIN, () -> x.writeBin(0));
        x.addBin(120, 'l');
        Check.same("50: empty", Check.outputOf(x, x.writeBin(0)), "l0/120");
        x.addBin(400, 'f');
        x.addSack(1, 60, 1, 1);
        x.addSack(1, 60, 1, 1);
        x.addSack(0, 30, 1, 1);
        x.addSack(1, 50, 1, 1);
        x.addSack(0, 45, 1, 1);
        x.setMice(0, 3);
        x.setTraps(0, 1);
        Check.same("50: the example", Check.outputOf(x, x.writeBin(0)), "l75/120m3t1 4 2");
        x.setMice(0, 0);
        Check.same("50: no mice", Check.outputOf(x, x.writeBin(0)), "l75/120t1 4 2");
        x.setMice(0, 20);
        x.setTraps(0, 0);
        x.setMethod(0, 'h');
        Check.same("50: no traps", Check.outputOf(x, x.writeBin(0)), "h75/120m20 4 2");
        Check.same("50: the other bin", Check.outputOf(x, x.writeBin(1)), "f170/400 0 1 3");
        Check.same("50: its length", x.writeBin(1), 14);
        Check.fails("50: bin 2", NO_BIN, () -> x.writeBin(2));
        Check.fails("50: bin -1", NO_BIN, () -> x.writeBin(-1));
        Check.same("50: which leaves the output", Check.outputOf(x, 14), "f170/400 0 1 3");
    }

    private static void promise50LongIds() {
        SighGranary x = new SighGranary();
        x.addBin(20, 'f');
        for (int sack = 0; sack < 125; sack++) {
            x.addSack(0, 1, 1, 0);
            x.sell(0, 1);
        }
        x.addSack(0, 2, 1, 0);
        x.addSack(0, 2, 1, 0);
        Check.same("50: ids of three digits", Check.outputOf(x, x.writeBin(0)), "f4/20 125 126");
        Check.same("51: an id of three digits", Check.outputOf(x, x.writeSack(126)), "#126:2*1g0@0");
    }

    private static void promise51WriteSack() {
        SighGranary x = new SighGranary();
        x.addBin(400, 'f');
        x.addBin(400, 'f');
        for (int sack = 0; sack < 4; sack++) {
            x.addSack(1, 1 + sack, 30, 9);
        }
        x.addSack(0, 25, 12, 3);
        Check.same("51: the example", Check.outputOf(x, x.writeSack(4)), "#4:25*12g3@0");
        Check.same("51: another", Check.outputOf(x, x.writeSack(2)), "#2:3*30g9@1");
        Check.same("51: its length", x.writeSack(2), 11);
        x.sell(1, 1);
        for (int id : new int[] {-1, 0, 5}) {
            Check.fails("51: no sack", NONE, () -> x.writeSack(id));
        }
        Check.same("51: which leaves the output", Check.outputOf(x, 11), "#2:3*30g9@1");
    }

    private static void promise52OutputAt() {
        SighGranary x = new SighGranary();
        Check.fails("52: empty at first", NO_BIN, () -> x.outputAt(0));
        x.addBin(120, 'f');
        int length = x.writeBin(0);
        Check.same("52: the first", x.outputAt(0), 'f');
        Check.same("52: the last", x.outputAt(length - 1), '0');
        Check.fails("52: behind the last", NO_BIN, () -> x.outputAt(length));
        Check.fails("52: index -1", NO_BIN, () -> x.outputAt(-1));
        x.undo();
        Check.same("52: undo does not cover it", Check.outputOf(x, length), "f0/120");
        x.saveSnapshot();
        x.addBin(300, 'l');
        x.writeBin(0);
        x.restoreSnapshot();
        Check.same("52: nor the snapshot", Check.outputOf(x, length), "l0/300");
    }
}
