/** Promise 10: size tells how many numbers, rows or columns the result has. */
public final class Promise10SizeTest {
    private static final int[] NO_SIZE = {-1, 2, 3, Integer.MIN_VALUE, Integer.MAX_VALUE};

    public static void main(String[] args) {
        Trial t = new Trial().good("A()0=9", 1).good("B(m0,n0)1=@m", 2).good("C(m0,n0)2=%m,n", 3);
        sizes(t, "nothing", 0, 0);
        sizes(t.arguments(4, 6).gives('A', 0), "a number", 0, 0);
        sizes(t.gives('B', 1), "a row", 4, 0);
        sizes(t.gives('C', 2), "a table", 4, 6);
        sizes(t.fails('H', Trial.NOT_RUN), "a table that stays", 4, 6);
        sizes(t.arguments(0, 6).gives('C', 2), "a table without rows", 0, 6);
        sizes(t.arguments(40, 0).gives('C', 2), "a table without columns", 40, 0);
        sizes(t.gives('B', 1), "the longest row", 40, 0);
        sizes(t.arguments(0).gives('B', 1), "an empty row", 0, 0);
        sizes(t.arguments(3, 3).gives('C', 2).arguments(3, -3).fails('C', Trial.BELOW_0), "no result", 0, 0);
        Trial.end();
    }

    private static void sizes(Trial t, String of, int first, int second) {
        Trial.due("size(0) of " + of, t.x.size(0), first);
        Trial.due("size(1) of " + of, t.x.size(1), second);
        for (int what : NO_SIZE) {
            Trial.due("size(" + what + ") of " + of, t.x.size(what), 0);
        }
    }
}
