/** Promise 5: clear lets all functions go and answers how many; the result stays. */
public final class Promise05ClearTest {
    public static void main(String[] args) {
        functionsGo();
        theRestStays();
        Trial.end();
    }

    private static void functionsGo() {
        Trial t = new Trial().good("A()0=1", 1).good("H()0=A()", 2);
        Trial.due("clear", t.x.clear(), 2);
        Trial.due("clear again", t.x.clear(), 0);
        t.fails('A', Trial.NOT_RUN).fails('H', Trial.NOT_RUN).wrong("B()0=A()", 5);
        t.good("A()0=2", 1).givesNumber('A', 2);
        Trial.due("clear of the new one", t.x.clear(), 1);
    }

    private static void theRestStays() {
        Trial t = new Trial().good("A(n0)1=&a=@n;a{0,n}", 1).arguments(2).givesRow('A', 2, 0).type("A(n0)");
        t.x.clear();
        Trial.due("kind", t.x.kind(), 1);
        Trial.due("size(0)", t.x.size(0), 2);
        Trial.due("cell(0, 0)", t.x.cell(0, 0), 2);
        t.counted(6, 1, 1, 1);
        t.good("0=n", 1).givesNumber('A', 2);
    }
}
