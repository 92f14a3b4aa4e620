/** Promise 3: define answers how many functions there are, or throws; what is ill or wrong is in the Terms' tests. */
public final class Promise03DefineTest {
    public static void main(String[] args) {
        howManyThereAre();
        everyForm();
        emptyInAnyCase();
        ill();
        wrong();
        illGoesBeforeWrong();
        badTextsDefineNothing();
        Trial.end();
    }

    private static void howManyThereAre() {
        Trial.sentence("how many functions there are");
        Trial t = new Trial();
        for (int i = 0; i < 8; i++) {
            t.good((char) ('H' - i) + "()0=" + i, i + 1);
        }
        for (int i = 0; i < 8; i++) {
            t.givesNumber((char) ('H' - i), i);
            t.wrong((char) ('H' - i) + "()0=1", 0);
        }
        t.x.clear();
        t.good("C()0=1", 1).illAt("D!").wrongAt("D()0=!n").good("D()0=C()", 2);
    }

    private static void everyForm() {
        Trial.sentence("Defines the text");
        new Trial().good("A(a0,b1,c2,d0)0=~b;~c;9999", 1)
                .good("B(a1,t2)2=&n=(#a+^t);~a;t{0,n,1}", 2)
                .good("C(a0)1=?((a-1)<(a*2))(@a|@(a/2))", 3)
                .good("D(a0)2=%(a=1),2", 4)
                .good("E(a2)0=&n=a[0,0];&b=$a;~a;~b;n", 5)
                .good("F(a1)1=&b=C(a[0]);~b;a{0,1}", 6)
                .good("G()0=0000", 7)
                .good("H(a0,b0,c0,d0)0=H(d,c,b,G())", 8);
    }

    private static void emptyInAnyCase() {
        Trial.sentence("it is empty then, in any case");
        new Trial().good("A()0=1", 1).ill("", 0).good("B()0=1", 2);
        new Trial().illAt("A()0=1!)").ill("", 0).good("A()0=1", 1);
        new Trial().wrongAt("A()0=!n").ill("", 0).good("A()0=1", 1);
        new Trial().ill("", 0).ill("", 0).good("A()0=1", 1).wrongAt("!A()0=1").ill("", 0);
    }

    private static void ill() {
        Trial.sentence("IllegalArgumentException: it is ILL");
        Trial.allIll("!", "!x", "A!", "A()0=1111!1", "A()0=(1+2!");
    }

    private static void wrong() {
        Trial.sentence("IllegalStateException: it is WRONG");
        new Trial().good("A()0=1", 1).wrongAt("!A()0=1");
        Trial.allWrong("B(a0,!a0)0=1", "B()0=!n", "B()0=!@1", "B(!a1)0=1");
    }

    private static void illGoesBeforeWrong() {
        Trial.sentence("A function that isn't ILL is WRONG");
        new Trial().good("A()0=1", 1).illAt("A(a0,a0)0=!x").illAt("A()0=1!)").illAt("B()0=(n+m!");
        new Trial().illAt("A()0=(n+1!").illAt("A(a1,a1)0=n!n");
    }

    private static void badTextsDefineNothing() {
        Trial.sentence("Defines the text", "not one that is ILL or WRONG");
        Trial t = new Trial().illAt("A()0=!").wrongAt("A()0=!n").wrongAt("A()1=!1").fails('A', Trial.NOT_RUN);
        Trial.due("clear", t.x.clear(), 0);
        t.wrongAt("B()0=!A()").good("A()0=3", 1).wrongAt("!A()0=4").givesNumber('A', 3);
    }
}
