/** Promises 1 to 6: a new object, append, clear, copy, length, at. */
public final class RowsTest {
    private static final Class<IndexOutOfBoundsException> INDEX = IndexOutOfBoundsException.class;
    private static final Class<IllegalArgumentException> ARGUMENT = IllegalArgumentException.class;
    private static final Class<IllegalStateException> STATE = IllegalStateException.class;
    private static final int[] NO_ROWS = {-1, 4, 5, Integer.MIN_VALUE, Integer.MAX_VALUE};

    public static void main(String[] args) {
        newObject();
        append();
        appendWrongly();
        clear();
        copy();
        lengthAndAt();
        wrongNumbers();
        twoYards();
        Expect.finish();
    }

    private static void newObject() {
        ButterflyYard yard = new ButterflyYard();
        for (int row = 0; row < 4; row++) {
            int asked = row;
            Expect.answer(0, "length of a new row", () -> yard.length(asked));
            Expect.thrown(INDEX, "at of a new row", () -> yard.at(asked, 0));
        }
        Expect.answer(0, "plans of a new object", yard::plans);
        Expect.thrown(INDEX, "root of a new object", () -> yard.root(0));
    }

    private static void append() {
        ButterflyYard yard = new ButterflyYard();
        Expect.answer(1, "append -9999", () -> yard.append(3, -9999));
        Expect.answer(2, "append 9999", () -> yard.append(3, 9999));
        Expect.answer(3, "append 0", () -> yard.append(3, 0));
        Expect.same("-9999 9999 0", Expect.row(yard, 3), "row 3");
        ButterflyYard full = new ButterflyYard();
        for (int count = 1; count <= 64; count++) {
            int due = count;
            Expect.answer(due, "append number " + due, () -> full.append(0, due));
        }
        Expect.thrown(STATE, "append number 65", () -> full.append(0, 1));
        Expect.answer(64, "the last entry", () -> full.at(0, 63));
        Expect.answer(1, "append to another row", () -> full.append(1, 1));
    }

    private static ButterflyYard filled() {
        ButterflyYard yard = new ButterflyYard();
        Expect.fill(yard, 0, 1, 2, 3);
        Expect.fill(yard, 2, 8, -3);
        return yard;
    }

    private static ButterflyYard full() {
        ButterflyYard yard = new ButterflyYard();
        for (int count = 1; count <= 64; count++) {
            yard.append(0, count);
        }
        return yard;
    }

    private static void appendWrongly() {
        for (int value : new int[] {-10000, 10000, Integer.MIN_VALUE, Integer.MAX_VALUE}) {
            Expect.unchanged(RowsTest::filled, ARGUMENT, "append " + value, yard -> yard.append(3, value));
            Expect.unchanged(RowsTest::full, ARGUMENT, "append " + value + " to a full row", yard -> yard.append(0, value));
        }
        for (int row : NO_ROWS) {
            Expect.unchanged(RowsTest::filled, INDEX, "append to row " + row, yard -> yard.append(row, 1));
            Expect.unchanged(RowsTest::filled, INDEX, "append 10000 to row " + row, yard -> yard.append(row, 10000));
        }
        Expect.unchanged(RowsTest::full, STATE, "append to a full row", yard -> yard.append(0, 1));
    }

    private static void wrongNumbers() {
        for (int row : NO_ROWS) {
            Expect.unchanged(RowsTest::filled, INDEX, "clear " + row, yard -> yard.clear(row));
            Expect.unchanged(RowsTest::filled, INDEX, "copy from " + row, yard -> yard.copy(row, 0));
            Expect.unchanged(RowsTest::filled, INDEX, "copy to " + row, yard -> yard.copy(0, row));
            Expect.unchanged(RowsTest::filled, INDEX, "length of row " + row, yard -> yard.length(row));
            Expect.unchanged(RowsTest::filled, INDEX, "at of row " + row, yard -> yard.at(row, 0));
        }
        for (int entry : new int[] {-1, 2, 63, 64, Integer.MIN_VALUE, Integer.MAX_VALUE}) {
            Expect.unchanged(RowsTest::filled, INDEX, "at " + entry, yard -> yard.at(2, entry));
        }
    }

    private static void clear() {
        ButterflyYard yard = new ButterflyYard();
        Expect.fill(yard, 1, 4, 5, 6);
        Expect.fill(yard, 2, 7);
        Expect.answer(3, "clear", () -> yard.clear(1));
        Expect.answer(0, "clear an empty row", () -> yard.clear(1));
        Expect.same("[][][7][]0", Expect.state(yard), "the state after clear");
        Expect.answer(1, "append after clear", () -> yard.append(1, 9));
        Expect.same("9", Expect.row(yard, 1), "row 1");
    }

    private static void copy() {
        ButterflyYard yard = new ButterflyYard();
        Expect.fill(yard, 0, 1, 2, 3);
        Expect.fill(yard, 1, 9, 9, 9, 9, 9);
        Expect.answer(3, "copy onto a longer row", () -> yard.copy(0, 1));
        Expect.answer(3, "copy onto an empty row", () -> yard.copy(0, 3));
        Expect.answer(3, "copy onto itself", () -> yard.copy(0, 0));
        Expect.same("[1 2 3][1 2 3][][1 2 3]0", Expect.state(yard), "the state after copies");
        yard.append(0, 4);
        Expect.same("[1 2 3 4][1 2 3][][1 2 3]0", Expect.state(yard), "the state when the source grows");
        Expect.answer(0, "copy of an empty row", () -> yard.copy(2, 1));
        Expect.same("[1 2 3 4][][][1 2 3]0", Expect.state(yard), "the state after copy of an empty row");
    }

    private static void lengthAndAt() {
        ButterflyYard yard = filled();
        Expect.answer(2, "length", () -> yard.length(2));
        Expect.answer(8, "at 0", () -> yard.at(2, 0));
        Expect.answer(-3, "at 1", () -> yard.at(2, 1));
        yard.clear(2);
        Expect.thrown(INDEX, "at of a row cleared", () -> yard.at(2, 0));
    }

    private static void twoYards() {
        ButterflyYard one = new ButterflyYard();
        ButterflyYard other = new ButterflyYard();
        Expect.fill(one, 0, 1, 2);
        one.plan(7, 3);
        Expect.same("[][][][]0", Expect.state(other), "another object");
    }
}
