/** Promise 11: cell is a number of the row or table that is the result. */
public final class Promise11CellTest {
    public static void main(String[] args) {
        Trial t = new Trial().good("A(n0)0=7", 1).good("B(n0)1=&a=@3;&b=a{0,5};&c=b{1,6};c{2,n}", 2)
                .good("C(n0)2=&a=%2,3;&b=a{0,0,1};&c=b{0,2,2};&d=c{1,0,3};d{1,2,n}", 3).good("D(n0)0=(1/0)", 4);
        cell(t, 0, 0, 0);
        cell(t.gives('A', 0), 0, 0, 0);
        row(t.arguments(Long.MIN_VALUE).gives('B', 1));
        table(t.gives('C', 2));
        table(t.fails('H', Trial.NOT_RUN));
        cell(t.fails('D', Trial.DIVIDED), 0, 0, 0);
        Trial.end();
    }

    private static void row(Trial t) {
        int[] columns = {0, 1, 2, 40, -1, Integer.MIN_VALUE, Integer.MAX_VALUE};
        for (int j : columns) {
            cell(t, 0, j, 5);
            cell(t, 1, j, 6);
            cell(t, 2, j, Long.MIN_VALUE);
            cell(t, 3, j, 0);
            cell(t, -1, j, 0);
            cell(t, Integer.MIN_VALUE, j, 0);
            cell(t, Integer.MAX_VALUE, j, 0);
        }
    }

    private static void table(Trial t) {
        long[][] due = {{1, 0, 2}, {3, 0, Long.MIN_VALUE}};
        for (int i = -2; i < 5; i++) {
            for (int j = -4; j < 8; j++) {
                cell(t, i, j, i >= 0 && i < 2 && j >= 0 && j < 3 ? due[i][j] : 0);
            }
        }
        cell(t, Integer.MAX_VALUE, Integer.MAX_VALUE, 0);
        cell(t, Integer.MIN_VALUE, Integer.MIN_VALUE, 0);
        cell(t, 0, Integer.MAX_VALUE, 0);
        cell(t, Integer.MIN_VALUE, 0, 0);
    }

    private static void cell(Trial t, int i, int j, long due) {
        Trial.due("cell(" + i + ", " + j + ")", t.x.cell(i, j), due);
    }
}
