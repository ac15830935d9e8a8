/** The examples of README.md, call by call: what stands behind each of them is what it answers. */
public final class ExamplesTest {
    public static void main(String[] args) {
        transforms();
        convolutions();
        Expect.finish();
    }

    private static void transforms() {
        ButterflyYard yard = new ButterflyYard();
        Expect.answer(0, "plan", () -> yard.plan(7, 6));
        Expect.answer(3, "root", () -> yard.root(0));
        Expect.answer(1 + 2 + 4 + 16, "ways", () -> yard.ways(0));
        Expect.answer(1, "append 1", () -> yard.append(0, 1));
        Expect.answer(2, "append 2", () -> yard.append(0, 2));
        Expect.answer(3, "append -1", () -> yard.append(0, -1));
        Expect.answer(0, "sum", () -> yard.sum(0, 0, 4));
        Expect.answer(2, "forward", () -> yard.forward(0, 0, 1));
        Expect.same("2 5 1 5 0 0", Expect.row(yard, 0), "the row forward");
        Expect.answer(1, "backward", () -> yard.backward(0, 0, 2));
        Expect.same("1 2 6 0 0 0", Expect.row(yard, 0), "the row back");
        Expect.answer(6, "at", () -> yard.at(0, 2));
    }

    private static void convolutions() {
        ButterflyYard yard = new ButterflyYard();
        Expect.fill(yard, 0, 3, 4);
        Expect.fill(yard, 1, 2, 1);
        Expect.answer(3, "multiply", () -> yard.multiply(0, 1, 2));
        Expect.same("6 1 5", Expect.row(yard, 2), "the product");
        Expect.answer(3, "filter", () -> yard.filter(0, 1, 3, 1, true));
        Expect.same("6 11 4", Expect.row(yard, 3), "the filtered signal");
        Expect.answer(0, "plan", () -> yard.plan(5, 2));
        Expect.answer(2, "convolve", () -> yard.convolve(0, 0, 1, 3));
        Expect.same("0 1", Expect.row(yard, 3), "the convolution");
        Expect.thrown(IllegalArgumentException.class, "filter in blocks of 33", () -> yard.filter(3, 3, 0, 33, false));
    }
}
