/** Promise 1: a new object has no functions, no text and no result; its arguments are 0. */
public final class Promise01NewObjectTest {
    public static void main(String[] args) {
        noFunctions();
        noText();
        noResult();
        argumentsAreZero();
        objectsAreApart();
        fiveHundredTwelveCalls();
        Trial.end();
    }

    private static void noFunctions() {
        Trial.sentence("No functions");
        Trial t = new Trial();
        for (char c = 'A'; c <= 'H'; c++) {
            t.fails(c, Trial.NOT_RUN);
            new Trial().wrongAt("A(n0)0=!" + (char) Math.max('B', c) + "()");
        }
        t.noResult();
        Trial.due("clear at first", new SoleArrays().clear(), 0);
        new Trial().good("H()0=1", 1);
    }

    private static void noText() {
        Trial.sentence("no text");
        new Trial().ill("", 0);
        Trial.due("place at first", new SoleArrays().place(), SoleArrays.NONE);
        Trial t = new Trial().type("A".repeat(150));
        Trial.due("type of character 151", t.x.type('A'), false);
    }

    private static void noResult() {
        Trial.sentence("no result");
        new Trial().noResult().counted(0, 0, 0, 0);
    }

    private static void argumentsAreZero() {
        Trial.sentence("arguments are 0");
        for (char v = 'a'; v <= 'd'; v++) {
            new Trial().good("A(a0,b0,c0,d0)0=" + v, 1).givesNumber('A', 0);
        }
        new Trial().good("A(a0,b0,c0,d0)1=@((a+b)+(c+d))", 1).givesRow('A');
        Trial t = new Trial().good("A(a0,b0)0=((a*10)+b)", 1);
        t.x.argument(1, 5);
        t.givesNumber('A', 5);
    }

    private static void objectsAreApart() {
        Trial.sentence("A new object");
        Trial one = new Trial().good("A(n0)1=@n", 1).arguments(3).type("B()0=");
        Trial other = new Trial().fails('A', Trial.NOT_RUN).ill("", 0);
        one.givesRow('A', 0, 0, 0);
        other.noResult().good("A(n0)0=n", 1).givesNumber('A', 0);
        one.good("4", 2).givesNumber('B', 4);
    }

    private static void fiveHundredTwelveCalls() {
        Trial.sentence("An object is used for at most 512 calls after it has been made");
        SoleArrays x = new SoleArrays();
        for (int call = 1; call <= 512; call++) {
            Trial.due("type, call " + call, x.type('A'), call <= 150);
        }
        Trial t = new Trial().type("A(n0)0=?n(A((n-1))|7)");
        t.thrownByDefine();
        t.x.argument(0, 7);
        for (int call = 24; call < 512; call += 2) {
            Trial.due("run, call " + call, t.x.run('A'), 0);
            Trial.due("value, call " + (call + 1), t.x.value(), 7);
        }
    }
}
