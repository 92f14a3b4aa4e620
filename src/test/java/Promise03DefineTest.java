/** Promise 3: define answers how many functions there are, or throws; Promise 4's test has the places. */
public final class Promise03DefineTest {
    public static void main(String[] args) {
        countsFunctions();
        emptiesTheText();
        illComesBeforeWrong();
        badTextsDefineNothing();
        everyFormIsGood();
        ownership();
        scopes();
        Trial.end();
    }

    private static void countsFunctions() {
        Trial t = new Trial();
        for (int i = 0; i < 8; i++) {
            t.good((char) ('H' - i) + "()0=" + i, i + 1);
        }
        for (int i = 0; i < 8; i++) {
            t.givesNumber((char) ('H' - i), i);
        }
        t.wrong("C()0=1", 0);
    }

    private static void emptiesTheText() {
        new Trial().good("A()0=1", 1).ill("", 0);
        new Trial().ill("A()0=1)", 6).good("A()0=1", 1);
        new Trial().wrong("A()0=n", 5).good("A()0=1", 1);
    }

    private static void illComesBeforeWrong() {
        new Trial().good("A()0=1", 1).ill("A(a0,a0)0=x", 10);
        new Trial().ill("A()0=(n+1", 9);
    }

    private static void badTextsDefineNothing() {
        Trial t = new Trial().ill("A()0=", 5).wrong("A()0=n", 5).wrong("A()1=1", 5);
        t.fails('A', Trial.NOT_RUN);
        Trial.due("clear", t.x.clear(), 0);
        t.wrong("B()0=A()", 5);
    }

    private static void everyFormIsGood() {
        new Trial().good("A(a0,b1,c2,d0)0=~b;~c;9999", 1)
                .good("B(a1,t2)2=&n=(#a+^t);~a;t{0,n,1}", 2)
                .good("C(a0)1=?((a-1)<(a*2))(@a|@(a/2))", 3)
                .good("D(a0)2=%(a=1),2", 4)
                .good("E(a2)0=&n=a[0,0];&b=$a;~a;~b;n", 5)
                .good("F(a1)1=&b=C(a[0]);~b;a{0,1}", 6)
                .good("G()0=0000", 7)
                .good("H(a0,b0,c0,d0)0=H(d,c,b,G())", 8);
    }

    private static void ownership() {
        new Trial().good("A(a1)1=a", 1).good("B(a1)1=&b=a;b", 2).good("C(a1)0=&n=a[0];~a;n", 3)
                .good("D(a1)1=&b=$a;~a;b", 4).good("E(a1)1=a{#a,a[#a]}", 5)
                .good("F(a1,b1,n0)1=?n(~a;b|~b;a)", 6).good("G(a1)1=A(B(a))", 7)
                .good("H(a2,b2)2=~a;H($b,b)", 8);
    }

    private static void scopes() {
        new Trial().good("A()0=(&a=1;a+&a=2;a)", 1).givesNumber('A', 3);
        new Trial().good("A()0=&a=&a=1;(a+1);(a+10)", 1).givesNumber('A', 12);
        new Trial().good("A(n0)0=?n(&a=@1;~a;1|&a=@2;~a;2)", 1).givesNumber('A', 2);
        new Trial().good("A()1=&a=@1;&b=a;b", 1).givesRow('A', 0);
    }
}
