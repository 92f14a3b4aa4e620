/** Promise 8: kind is the result's type. */
public final class Promise08KindTest {
    public static void main(String[] args) {
        theResultsType();
        none();
        Trial.end();
    }

    private static Trial kinds() {
        return new Trial().good("A(n0)0=(8/n)", 1).good("B(n0)1=@n", 2).good("C(n0)2=%n,n", 3);
    }

    private static void kind(Trial t, int due) {
        Trial.due("kind", t.x.kind(), due);
    }

    private static void theResultsType() {
        Trial.sentence("The result's type");
        Trial t = kinds().arguments(2).gives('A', 0).gives('B', 1).gives('C', 2);
        kind(t.fails('D', Trial.NOT_RUN), 2);
        kind(t.gives('A', 0).good("D(n0)1=@n", 4), 0);
        kind(t.wrongAt("!A()1=@1").illAt("A!"), 0);
        t.x.clear();
        kind(t, 0);
        // Also of what is empty, or is the number 0 or -1.
        kinds().arguments(0).gives('B', 1).gives('C', 2).arguments(9).gives('A', 0).arguments(-8).givesNumber('A', -1);
    }

    private static void none() {
        Trial.sentence("NONE if there is none");
        kind(new Trial(), SoleArrays.NONE);
        kind(kinds(), SoleArrays.NONE);
        kind(kinds().fails('D', Trial.NOT_RUN), SoleArrays.NONE);
        kind(kinds().fails('A', Trial.DIVIDED), SoleArrays.NONE);
        kind(kinds().arguments(1).gives('A', 0).arguments(0).fails('A', Trial.DIVIDED), SoleArrays.NONE);
        kind(kinds().arguments(-1).gives('A', 0).fails('B', Trial.BELOW_0), SoleArrays.NONE);
        kind(kinds().arguments(50).gives('A', 0).fails('C', Trial.TOO_MUCH).fails('D', Trial.NOT_RUN), SoleArrays.NONE);
    }
}
