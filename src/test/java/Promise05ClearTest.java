/** Promise 5: clear lets all functions go and answers how many; the result stays. */
public final class Promise05ClearTest {
    public static void main(String[] args) {
        howMany();
        allFunctionsGo();
        theResultStays();
        theRestStays();
        Trial.end();
    }

    private static void howMany() {
        Trial.sentence("All functions go: how many");
        for (int count = 0; count <= 8; count++) {
            Trial t = new Trial();
            for (int i = 0; i < count; i++) {
                t.good((char) ('A' + i) + "()0=1", i + 1);
            }
            Trial.due("clear", t.x.clear(), count);
            Trial.due("clear again", t.x.clear(), 0);
        }
        Trial t = new Trial().good("A()0=1", 1).wrongAt("!A()0=1").illAt("B!");
        Trial.due("clear after texts that were not defined", t.x.clear(), 1);
    }

    private static void allFunctionsGo() {
        Trial.sentence("All functions go");
        Trial t = new Trial().good("A()0=1", 1).good("H()0=A()", 2);
        t.x.clear();
        t.fails('A', Trial.NOT_RUN).fails('H', Trial.NOT_RUN).wrongAt("B()0=!A()");
        t.good("A()0=2", 1).givesNumber('A', 2).good("H()0=(A()+1)", 2).givesNumber('H', 3);
        Trial.due("clear of the new ones", t.x.clear(), 2);
    }

    private static void theResultStays() {
        Trial.sentence("(The result stays.)");
        Trial t = new Trial().good("A(n0)0=n", 1).arguments(9).givesNumber('A', 9);
        t.x.clear();
        Trial.due("kind", t.x.kind(), 0);
        Trial.due("value", t.x.value(), 9);
        t.good("B(n0)1=&a=@2;a{1,n}", 1).gives('B', 1);
        t.x.clear();
        Trial.due("kind", t.x.kind(), 1);
        Trial.due("size(0)", t.x.size(0), 2);
        Trial.due("cell(1, 0)", t.x.cell(1, 0), 9);
        t.good("C(n0)2=&a=%1,2;a{0,1,n}", 1).gives('C', 2);
        t.x.clear();
        Trial.due("kind", t.x.kind(), 2);
        Trial.due("size(1)", t.x.size(1), 2);
        Trial.due("cell(0, 1)", t.x.cell(0, 1), 9);
        Trial none = new Trial();
        none.x.clear();
        none.noResult();
    }

    private static void theRestStays() {
        Trial.sentence("All functions go", "nothing else does");
        Trial t = new Trial().good("A(n0)1=&a=@n;a{0,n}", 1).arguments(2).givesRow('A', 2, 0);
        t.wrongAt("!A()0=1").type("A(n0)");
        t.x.clear();
        Trial.due("place", t.x.place(), 0);
        t.counted(6, 1, 1, 1).good("0=n", 1).givesNumber('A', 2);
    }
}
