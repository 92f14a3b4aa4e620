/** Promise 1: a new object has no functions, no text and no result; its arguments are 0. */
public final class Promise01NewObjectTest {
    public static void main(String[] args) {
        new Trial().noResult().counted(0, 0, 0, 0);
        noText();
        noFunctions();
        argumentsAreZero();
        objectsAreApart();
        Trial.end();
    }

    private static void noText() {
        Trial t = new Trial();
        Trial.due("place at first", t.x.place(), SoleArrays.NONE);
        t.ill("", 0);
    }

    private static void noFunctions() {
        Trial t = new Trial();
        for (char c = 'A'; c <= 'H'; c++) {
            t.fails(c, Trial.NOT_RUN);
        }
        Trial.due("clear at first", t.x.clear(), 0);
        t.noResult();
    }

    private static void argumentsAreZero() {
        new Trial().good("A(a0,b0,c0,d0)0=((a+b)+(c+d))", 1).givesNumber('A', 0);
        new Trial().good("A(a0,b0,c0,d0)1=@((a+b)+(c+d))", 1).givesRow('A');
    }

    private static void objectsAreApart() {
        Trial one = new Trial().good("A(n0)1=@n", 1).arguments(3);
        Trial other = new Trial().fails('A', Trial.NOT_RUN);
        one.givesRow('A', 0, 0, 0);
        other.noResult();
    }
}
