/** The boundary cases of promises 1 to 6: a method for each sentence of the document, which stands above it. */
public final class RowBoundsTest {
    private static final Class<IndexOutOfBoundsException> INDEX = IndexOutOfBoundsException.class;
    private static final Class<IllegalArgumentException> ARGUMENT = IllegalArgumentException.class;
    private static final Class<IllegalStateException> STATE = IllegalStateException.class;
    private static final int[] NO_ROWS = {-1, 4, -4, Integer.MIN_VALUE, Integer.MAX_VALUE};
    private static final int[] NO_VALUES = {-10000, 10000, Integer.MIN_VALUE, Integer.MAX_VALUE};

    public static void main(String[] args) {
        emptyAtFirst();
        noPlansAtFirst();
        objectsApart();
        fourRows();
        noRowBesides();
        atMostSixtyFour();
        leastAndLargestValue();
        noValueBeyond();
        noEntryBeyondSixtyFour();
        appendFirstNamed();
        clearedCounts();
        clearedIsForgotten();
        clearedIsFilledAgain();
        copiedOntoItself();
        copiedFullAndEmpty();
        copiesApart();
        lengthFromNoneToFull();
        entriesFromZeroOn();
        noEntryBesides();
        Expect.finish();
    }

    /** Row 0 is full, row 1 has one entry, row 2 three, row 3 none. */
    private static ButterflyYard filled() {
        ButterflyYard yard = new ButterflyYard();
        Expect.full(yard, 0, 7);
        Expect.fill(yard, 1, -9999);
        Expect.fill(yard, 2, 1, 9999, -3);
        return yard;
    }

    /** "Empty rows, no plans." */
    private static void emptyAtFirst() {
        for (int row = 0; row < 4; row++) {
            int asked = row;
            ButterflyYard yard = new ButterflyYard();
            Expect.answer(0, "length of new row " + row, () -> yard.length(asked));
            Expect.answer(0, "clear of new row " + row, () -> yard.clear(asked));
            Expect.unchanged(ButterflyYard::new, INDEX, "at(.., 0) of new row " + row, fresh -> fresh.at(asked, 0));
        }
        Expect.same("[][][][]0", Expect.state(new ButterflyYard()), "a new object");
    }

    /** "Empty rows, no plans." */
    private static void noPlansAtFirst() {
        ButterflyYard yard = new ButterflyYard();
        Expect.answer(0, "plans of a new object", yard::plans);
        Expect.unchanged(ButterflyYard::new, INDEX, "root of a new object", fresh -> fresh.root(0));
        Expect.unchanged(ButterflyYard::new, INDEX, "ways of a new object", fresh -> fresh.ways(0));
        Expect.unchanged(ButterflyYard::new, INDEX, "forward of a new object", fresh -> fresh.forward(0, 0, 0));
        Expect.unchanged(ButterflyYard::new, INDEX, "backward of a new object", fresh -> fresh.backward(0, 0, 0));
        Expect.unchanged(ButterflyYard::new, INDEX, "sum of a new object", fresh -> fresh.sum(0, 0, 0));
        Expect.unchanged(ButterflyYard::new, INDEX, "convolve of a new object", fresh -> fresh.convolve(0, 0, 1, 2));
        Expect.unchanged(ButterflyYard::new, INDEX, "convolved of a new object", fresh -> fresh.convolved(0, 0, 1, 0));
    }

    /** "Empty rows, no plans", whatever an object made before holds. */
    private static void objectsApart() {
        ButterflyYard before = filled();
        before.plan(7, 6);
        Expect.same("[][][][]0", Expect.state(new ButterflyYard()), "an object made after a filled one");
        ButterflyYard other = new ButterflyYard();
        Expect.fill(other, 1, 5);
        other.plan(5, 4);
        Expect.answer(-9999, "an entry when another object has its own", () -> before.at(1, 0));
        Expect.answer(3, "a root when another object has its own", () -> before.root(0));
    }

    /** "There are 4 rows, 0 to 3." */
    private static void fourRows() {
        for (int row : new int[] {0, 3}) {
            ButterflyYard yard = new ButterflyYard();
            Expect.answer(1, "append to row " + row, () -> yard.append(row, 5));
            Expect.answer(1, "length of row " + row, () -> yard.length(row));
            Expect.answer(5, "at of row " + row, () -> yard.at(row, 0));
            Expect.answer(1, "copy from row " + row, () -> yard.copy(row, 1));
            Expect.answer(0, "copy onto row " + row, () -> yard.copy(2, row));
            Expect.answer(0, "clear of row " + row, () -> yard.clear(row));
        }
        ButterflyYard yard = new ButterflyYard();
        for (int row = 0; row < 4; row++) {
            Expect.fill(yard, row, row, 10 * row);
        }
        Expect.same("[0 0][1 10][2 20][3 30]0", Expect.state(yard), "four rows apart");
    }

    /** "Throws IndexOutOfBoundsException if there is no such row", of promises 2 to 6. */
    private static void noRowBesides() {
        for (int none : NO_ROWS) {
            Expect.unchanged(RowBoundsTest::filled, INDEX, "append to row " + none, yard -> yard.append(none, 1));
            Expect.unchanged(RowBoundsTest::filled, INDEX, "clear row " + none, yard -> yard.clear(none));
            Expect.unchanged(RowBoundsTest::filled, INDEX, "copy from row " + none, yard -> yard.copy(none, 3));
            Expect.unchanged(RowBoundsTest::filled, INDEX, "copy to row " + none, yard -> yard.copy(2, none));
            Expect.unchanged(RowBoundsTest::filled, INDEX, "copy row " + none + " onto itself", yard -> yard.copy(none, none));
            Expect.unchanged(RowBoundsTest::filled, INDEX, "length of row " + none, yard -> yard.length(none));
            Expect.unchanged(RowBoundsTest::filled, INDEX, "at of row " + none, yard -> yard.at(none, 0));
        }
    }

    /** "4 rows, each of at most 64 whole numbers"; append "returns how many entries it has then." */
    private static void atMostSixtyFour() {
        for (int row = 0; row < 4; row++) {
            int filled = row;
            ButterflyYard yard = new ButterflyYard();
            for (int count = 1; count <= 64; count++) {
                int due = count;
                Expect.answer(due, "append " + due + " to row " + row, () -> yard.append(filled, due - 33));
            }
            Expect.answer(-32, "the first of 64", () -> yard.at(filled, 0));
            Expect.answer(31, "the last of 64", () -> yard.at(filled, 63));
            Expect.thrown(STATE, "append 65 to row " + row, () -> yard.append(filled, 0));
            Expect.answer(64, "length after append 65", () -> yard.length(filled));
            Expect.answer(31, "the last after append 65", () -> yard.at(filled, 63));
            Expect.answer(1, "append to another row", () -> yard.append((filled + 1) % 4, 0));
        }
    }

    /** "value: -9999 to 9999" */
    private static void leastAndLargestValue() {
        for (int value : new int[] {-9999, -9998, -1, 0, 1, 9998, 9999}) {
            ButterflyYard yard = new ButterflyYard();
            Expect.answer(1, "append " + value, () -> yard.append(0, value));
            Expect.answer(value, "what was appended", () -> yard.at(0, 0));
        }
    }

    /** "Throws IllegalArgumentException if value is out of range" */
    private static void noValueBeyond() {
        for (int none : NO_VALUES) {
            Expect.unchanged(RowBoundsTest::filled, ARGUMENT, "append " + none, yard -> yard.append(2, none));
            Expect.unchanged(RowBoundsTest::filled, ARGUMENT, "append " + none + " to an empty row", yard -> yard.append(3, none));
        }
    }

    /** "Throws IllegalStateException if it has 64 entries", and not if it has 63. */
    private static void noEntryBeyondSixtyFour() {
        for (int value : new int[] {-9999, 0, 9999}) {
            Expect.unchanged(RowBoundsTest::filled, STATE, "append " + value + " to a full row", yard -> yard.append(0, value));
        }
        ButterflyYard yard = new ButterflyYard();
        for (int count = 0; count < 63; count++) {
            yard.append(2, count);
        }
        Expect.answer(64, "append to a row of 63", () -> yard.append(2, 9999));
        Expect.thrown(STATE, "append to the row of 64 then", () -> yard.append(2, 9999));
    }

    /** "If several apply, the one that the throws clause names first is thrown", of append. */
    private static void appendFirstNamed() {
        for (int value : NO_VALUES) {
            Expect.unchanged(RowBoundsTest::filled, ARGUMENT, "append " + value + " to a full row", yard -> yard.append(0, value));
            for (int none : NO_ROWS) {
                Expect.unchanged(RowBoundsTest::filled, INDEX, "append " + value + " to row " + none, yard -> yard.append(none, value));
            }
        }
    }

    /** Clear "returns how many entries it had": none, one, all 64. */
    private static void clearedCounts() {
        ButterflyYard yard = filled();
        Expect.answer(64, "clear a full row", () -> yard.clear(0));
        Expect.answer(1, "clear a row of one", () -> yard.clear(1));
        Expect.answer(0, "clear an empty row", () -> yard.clear(3));
        Expect.answer(0, "clear a row again", () -> yard.clear(0));
        Expect.same("[][][1 9999 -3][]0", Expect.state(yard), "the state after clear");
    }

    /** "Empties a row": nothing of it can be read then. */
    private static void clearedIsForgotten() {
        ButterflyYard yard = filled();
        yard.plan(7, 6);
        yard.clear(2);
        Expect.thrown(INDEX, "at of a cleared row", () -> yard.at(2, 0));
        Expect.answer(0, "sum of a cleared row", () -> yard.sum(0, 2, 1));
        yard.append(2, 4);
        Expect.answer(4, "the entry after a clear", () -> yard.at(2, 0));
        Expect.thrown(INDEX, "an entry that was there before the clear", () -> yard.at(2, 1));
        Expect.answer(4, "sum of one entry after a clear", () -> yard.sum(0, 2, 5));
    }

    /** "Empties a row": there is room for 64 again. */
    private static void clearedIsFilledAgain() {
        ButterflyYard yard = filled();
        yard.clear(0);
        Expect.full(yard, 0, -5);
        Expect.answer(64, "length of a row filled again", () -> yard.length(0));
        Expect.answer(-5 + 63, "the last entry of a row filled again", () -> yard.at(0, 63));
        Expect.thrown(STATE, "append to a row filled again", () -> yard.append(0, 0));
    }

    /** "The target has the entries of the source then", which may be the source itself. */
    private static void copiedOntoItself() {
        ButterflyYard yard = filled();
        String before = Expect.state(yard);
        Expect.answer(64, "copy a full row onto itself", () -> yard.copy(0, 0));
        Expect.answer(3, "copy a row onto itself", () -> yard.copy(2, 2));
        Expect.answer(0, "copy an empty row onto itself", () -> yard.copy(3, 3));
        Expect.same(before, Expect.state(yard), "the state after copies onto themselves");
    }

    /** "The target has the entries of the source then", whatever it had: more, fewer, none. */
    private static void copiedFullAndEmpty() {
        ButterflyYard full = filled();
        String row = Expect.row(full, 0);
        Expect.answer(64, "copy a full row onto an empty one", () -> full.copy(0, 3));
        Expect.same(row, Expect.row(full, 3), "a full row copied");
        Expect.thrown(STATE, "append to the copy of a full row", () -> full.append(3, 1));
        ButterflyYard yard = filled();
        Expect.answer(3, "copy a row onto a full one", () -> yard.copy(2, 0));
        Expect.same("[1 9999 -3][-9999][1 9999 -3][]0", Expect.state(yard), "the state after copy onto a full row");
        Expect.answer(0, "copy an empty row onto a row", () -> yard.copy(3, 1));
        Expect.same("[1 9999 -3][][1 9999 -3][]0", Expect.state(yard), "the state after copy of an empty row");
        Expect.thrown(INDEX, "at of a row that an empty one was copied onto", () -> yard.at(1, 0));
    }

    /** "The target has the entries of the source then": later calls change one of them alone. */
    private static void copiesApart() {
        ButterflyYard yard = filled();
        yard.clear(0);
        yard.copy(2, 3);
        yard.append(2, 8);
        yard.append(3, 6);
        Expect.same("[][-9999][1 9999 -3 8][1 9999 -3 6]0", Expect.state(yard), "the state after both grew");
        yard.clear(2);
        Expect.same("[][-9999][][1 9999 -3 6]0", Expect.state(yard), "the state after the source was cleared");
    }

    /** Length "returns 0 to 64." */
    private static void lengthFromNoneToFull() {
        ButterflyYard yard = filled();
        Expect.answer(0, "length of an empty row", () -> yard.length(3));
        Expect.answer(1, "length of a row of one", () -> yard.length(1));
        Expect.answer(64, "length of a full row", () -> yard.length(0));
    }

    /** "Its entries, which are numbered from 0 on" */
    private static void entriesFromZeroOn() {
        ButterflyYard yard = filled();
        Expect.answer(7, "entry 0 of a full row", () -> yard.at(0, 0));
        Expect.answer(70, "entry 63 of a full row", () -> yard.at(0, 63));
        Expect.answer(-9999, "entry 0 of one", () -> yard.at(1, 0));
        Expect.answer(1, "entry 0 of three", () -> yard.at(2, 0));
        Expect.answer(-3, "entry 2 of three", () -> yard.at(2, 2));
    }

    /** "Throws IndexOutOfBoundsException if there is no such row or entry" */
    private static void noEntryBesides() {
        for (int row = 0; row < 4; row++) {
            int asked = row;
            int length = new int[] {64, 1, 3, 0}[row];
            for (int none : new int[] {-1, length, length + 1, -64, Integer.MIN_VALUE, Integer.MAX_VALUE}) {
                String call = "entry " + none + " of " + length;
                Expect.unchanged(RowBoundsTest::filled, INDEX, call, yard -> yard.at(asked, none));
            }
        }
        for (int none : NO_ROWS) {
            Expect.unchanged(RowBoundsTest::filled, INDEX, "entry -1 of row " + none, yard -> yard.at(none, -1));
            Expect.unchanged(RowBoundsTest::filled, INDEX, "entry 64 of row " + none, yard -> yard.at(none, 64));
        }
    }
}
