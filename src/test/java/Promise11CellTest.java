/** Promise 11: cell is a number of the row or table that is the result. */
public final class Promise11CellTest {
    private static final int[] FAR = {40, 41, -40, 1 << 16, Integer.MIN_VALUE, Integer.MAX_VALUE};

    public static void main(String[] args) {
        ofARow();
        ofATable();
        outsideARow();
        outsideATable();
        ofTheEmpty();
        noRowOrTable();
        Trial.end();
    }

    private static Trial cells() {
        return new Trial().good("A(n0)0=7", 1).good("B(n0)1=&a=@3;&b=a{0,5};&c=b{1,6};c{2,n}", 2)
                .good("C(n0)2=&a=%2,3;&b=a{0,0,1};&c=b{0,2,2};&d=c{1,0,3};d{1,2,n}", 3).good("D(n0)0=(1/0)", 4)
                .arguments(Long.MIN_VALUE);
    }

    private static void cell(Trial t, int i, int j, long due) {
        Trial.due("cell(" + i + ", " + j + ")", t.x.cell(i, j), due);
    }

    private static void ofARow() {
        Trial.sentence("The number at i of a row");
        Trial t = cells().gives('B', 1).fails('H', Trial.NOT_RUN);
        int[] columns = {0, 1, 2, 3, -1, Integer.MIN_VALUE, Integer.MAX_VALUE};
        for (int j : columns) {
            cell(t, 0, j, 5);
            cell(t, 1, j, 6);
            cell(t, 2, j, Long.MIN_VALUE);
        }
        Trial longest = new Trial().good("A()1=&a=@40;a{39,8}", 1).gives('A', 1);
        cell(longest, 38, 0, 0);
        cell(longest, 39, 0, 8);
        cell(longest, 40, 0, 0);
    }

    private static void ofATable() {
        Trial.sentence("or in row i and column j of a table");
        Trial t = cells().gives('C', 2).fails('H', Trial.NOT_RUN);
        cell(t, 0, 0, 1);
        cell(t, 0, 1, 0);
        cell(t, 0, 2, 2);
        cell(t, 1, 0, 3);
        cell(t, 1, 1, 0);
        cell(t, 1, 2, Long.MIN_VALUE);
        Trial widest = new Trial().good("A()2=&a=%1,40;a{0,39,8}", 1).good("B()2=&a=%40,1;a{39,0,9}", 2);
        cell(widest.gives('A', 2), 0, 39, 8);
        cell(widest, 0, 40, 0);
        cell(widest.gives('B', 2), 39, 0, 9);
        cell(widest, 40, 0, 0);
    }

    private static void outsideARow() {
        Trial.sentence("0 if there is none", "i of a row");
        Trial t = cells().gives('B', 1);
        cell(t, -1, 0, 0);
        cell(t, 3, 0, 0);
        for (int i : FAR) {
            cell(t, i, 0, 0);
            cell(t, i, i, 0);
        }
    }

    private static void outsideATable() {
        Trial.sentence("0 if there is none", "i or j of a table");
        Trial t = cells().gives('C', 2);
        for (int i = -2; i < 5; i++) {
            for (int j = -4; j < 8; j++) {
                if (i < 0 || i >= 2 || j < 0 || j >= 3) {
                    cell(t, i, j, 0);
                }
            }
        }
        for (int far : FAR) {
            cell(t, far, 0, 0);
            cell(t, 0, far, 0);
            cell(t, far, far, 0);
        }
    }

    private static void ofTheEmpty() {
        Trial.sentence("0 if there is none", "in what is empty");
        // The room of what was given up held other numbers than 0.
        Trial t = new Trial().good("A()1=&a=@1;&b=a{0,5};~b;@0", 1).good("B()2=&a=@1;&b=a{0,5};~b;%0,3", 2)
                .good("C()2=&a=@1;&b=a{0,5};~b;%3,0", 3);
        cell(t.gives('A', 1), 0, 0, 0);
        cell(t.gives('B', 2), 0, 0, 0);
        cell(t.gives('C', 2), 0, 0, 0);
    }

    private static void noRowOrTable() {
        Trial.sentence("0 if there is none", "no row or table is the result");
        cell(new Trial(), 0, 0, 0);
        cell(cells(), 0, 0, 0);
        cell(cells().gives('A', 0), 0, 0, 0);
        cell(cells().gives('B', 1).gives('A', 0), 0, 0, 0);
        cell(cells().gives('C', 2).fails('D', Trial.DIVIDED), 0, 0, 0);
    }
}
