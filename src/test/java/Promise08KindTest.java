/** Promise 8: kind is the result's type. */
public final class Promise08KindTest {
    public static void main(String[] args) {
        Trial t = new Trial().good("A(n0)0=(8/n)", 1).good("B(n0)1=@n", 2).good("C(n0)2=%n,n", 3);
        Trial.due("kind before a run", t.x.kind(), SoleArrays.NONE);
        t.arguments(2).gives('A', 0).gives('B', 1).gives('C', 2);
        t.fails('D', Trial.NOT_RUN);
        Trial.due("kind after a run of nothing", t.x.kind(), 2);
        t.arguments(0).fails('A', Trial.DIVIDED).noResult();
        t.fails('D', Trial.NOT_RUN).noResult();
        t.arguments(-1).gives('A', 0).fails('B', Trial.BELOW_0).noResult();
        t.gives('A', 0).fails('C', Trial.BELOW_0).noResult();
        t.arguments(50).gives('A', 0).fails('B', Trial.TOO_MUCH).noResult();
        t.gives('A', 0);
        t.x.clear();
        Trial.due("kind after clear", t.x.kind(), 0);
        Trial.end();
    }
}
