/** Promise 10: size tells how many numbers, rows or columns the result has. */
public final class Promise10SizeTest {
    public static void main(String[] args) {
        ofARow();
        ofATable();
        otherwise();
        otherWhats();
        Trial.end();
    }

    private static Trial sizes(long m, long n) {
        return new Trial().good("A()0=9", 1).good("B(m0,n0)1=@m", 2).good("C(m0,n0)2=%m,n", 3).arguments(m, n);
    }

    private static void size(Trial t, int first, int second) {
        Trial.due("size(0)", t.x.size(0), first);
        Trial.due("size(1)", t.x.size(1), second);
    }

    private static void ofARow() {
        Trial.sentence("What 0: how many numbers a row, or rows a table, has that is the result", "a row");
        int[] lengths = {0, 1, 2, 39, 40};
        for (int length : lengths) {
            size(sizes(length, 6).gives('B', 1), length, 0);
        }
        size(sizes(4, 6).gives('B', 1).fails('H', Trial.NOT_RUN), 4, 0);
    }

    private static void ofATable() {
        Trial.sentence("or rows a table, has that is the result; 1: columns of a table");
        int[][] tables = {{0, 0}, {0, 1}, {1, 0}, {1, 1}, {4, 6}, {6, 4}, {0, 40}, {40, 0}, {40, 1}, {1, 40}};
        for (int[] table : tables) {
            size(sizes(table[0], table[1]).gives('C', 2), table[0], table[1]);
        }
        size(sizes(4, 6).gives('C', 2).fails('H', Trial.NOT_RUN), 4, 6);
    }

    private static void otherwise() {
        Trial.sentence("0 otherwise", "no row or table is the result");
        size(new Trial(), 0, 0);
        size(sizes(4, 6), 0, 0);
        size(sizes(4, 6).gives('C', 2).gives('A', 0), 0, 0);
        size(sizes(3, -3).gives('B', 1).fails('C', Trial.BELOW_0), 0, 0);
    }

    private static void otherWhats() {
        Trial.sentence("0 otherwise", "what is neither 0 nor 1");
        int[] whats = {-1, 2, 3, Integer.MIN_VALUE, Integer.MAX_VALUE};
        for (int what : whats) {
            Trial.due("size(" + what + ") of none", new SoleArrays().size(what), 0);
            Trial.due("size(" + what + ") of a number", sizes(4, 6).gives('A', 0).x.size(what), 0);
            Trial.due("size(" + what + ") of a row", sizes(4, 6).gives('B', 1).x.size(what), 0);
            Trial.due("size(" + what + ") of a table", sizes(4, 6).gives('C', 2).x.size(what), 0);
        }
    }
}
