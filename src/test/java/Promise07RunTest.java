/** Promise 7: run works a function out, or throws what is found first. */
public final class Promise07RunTest {
    public static void main(String[] args) {
        whatIsNotRun();
        numbers();
        choices();
        rows();
        tables();
        copiesAreApart();
        calls();
        failures();
        sizes();
        tooManyExpressions();
        tooManyCalls();
        tooManyArrays();
        deepestNesting();
        aFailedRunLeavesNothingBehind();
        Trial.end();
    }

    private static void whatIsNotRun() {
        Trial t = new Trial().good("A()0=5", 1).good("B(a1)0=~a;1", 2).good("C(n0,t2)2=t", 3).givesNumber('A', 5);
        char[] none = {'B', 'C', 'D', 'H', 'I', '@', 'a', 0, '\uffff'};
        for (char c : none) {
            t.fails(c, Trial.NOT_RUN);
            Trial.due("kind after a run of what is not run", t.x.kind(), 0);
            Trial.due("value after a run of what is not run", t.x.value(), 5);
            t.counted(1, 0, 0, 0);
        }
    }

    private static void numbers() {
        long least = Long.MIN_VALUE;
        long most = Long.MAX_VALUE;
        Trial.number("0000", 0, 0, 0);
        Trial.number("0070", 0, 0, 70);
        Trial.number("9999", 0, 0, 9999);
        Trial.number("(m+n)", most, 1, least);
        Trial.number("(m-n)", least, 1, most);
        Trial.number("(m*n)", most, 2, -2);
        Trial.number("(m/n)", 7, -2, -3);
        Trial.number("(m/n)", -7, 2, -3);
        Trial.number("(m/n)", least, -1, least);
        Trial.number("(m<n)", -1, 0, 1);
        Trial.number("(m<n)", 0, 0, 0);
        Trial.number("(m<n)", least, most, 1);
        Trial.number("(m=n)", 3, 3, 1);
        Trial.number("(m=n)", 3, 3 + (1L << 32), 0);
        Trial.number("&a=(m+1);&b=(a*n);(b-a)", 3, 5, 16);
    }

    private static void choices() {
        Trial.number("?m(10|20)", 1, 0, 10);
        Trial.number("?m(10|20)", -1, 0, 10);
        Trial.number("?m(10|20)", 1L << 32, 0, 10);
        Trial.number("?m(10|20)", 0, 0, 20);
        Trial.number("?m(10|(1/0))", 1, 0, 10);
        Trial.number("?m((1/0)|20)", 0, 0, 20);
    }

    private static void rows() {
        new Trial().good("A(n0)1=@n", 1).arguments(3).givesRow('A', 0, 0, 0).arguments(0).givesRow('A');
        new Trial().good("A(n0)1=&r=@n;&q=r{0,(n*n)};q{(n-1),7}", 1).arguments(3).givesRow('A', 9, 0, 7)
                .arguments(1).givesRow('A', 7).arguments(0).fails('A', Trial.OUTSIDE).noResult()
                .arguments(-2).fails('A', Trial.BELOW_0).arguments(41).fails('A', Trial.TOO_MUCH)
                .arguments(40).gives('A', 1);
        Trial.number("&a=@3;&b=a{1,m};&c=(b[1]+#b);~b;c", 40, 0, 43);
        new Trial().good("A(a1,k0)1=?(k<#a)(A(a{k,(k*k)},(k+1))|a)", 1).good("B(n0)1=A(@n,0)", 2).arguments(5)
                .givesRow('B', 0, 1, 4, 9, 16);
    }

    private static void tables() {
        new Trial().good("A(m0,n0)2=&t=%m,n;&s=$t;~t;s{1,0,(#s+^s)}", 1).arguments(2, 3).givesTable('A', 2, 3, 0, 0, 0, 5, 0, 0)
                .arguments(1, 3).fails('A', Trial.OUTSIDE).arguments(2, -1).fails('A', Trial.BELOW_0)
                .arguments(5, 9).fails('A', Trial.TOO_MUCH);
        new Trial().good("A(m0,n0)2=&t=%2,3;t{m,n,8}", 1).arguments(0, 2).givesTable('A', 2, 3, 0, 0, 8, 0, 0, 0)
                .arguments(1, 0).givesTable('A', 2, 3, 0, 0, 0, 8, 0, 0).arguments(0, 3).fails('A', Trial.OUTSIDE)
                .arguments(2, 0).fails('A', Trial.OUTSIDE).arguments(1, -1).fails('A', Trial.OUTSIDE);
        new Trial().good("A()2=%0,5", 1).givesTable('A', 0, 5).good("B()2=%5,0", 2).givesTable('B', 5, 0);
        Trial.number("&t=%2,3;&s=t{1,2,9};&r=s[m,n];~s;r", 1, 2, 9);
        Trial.number("&t=%2,3;&s=t{1,2,9};&r=s[m,n];~s;r", 0, 2, 0);
        Trial.failure("&t=%2,3;&r=t[m,n];~t;r", 0, 3, Trial.OUTSIDE, 8);
        Trial.failure("&t=%2,3;&r=t[m,n];~t;r", 2, 0, Trial.OUTSIDE, 8);
        Trial.failure("&t=%2,3;&r=t[m,n];~t;r", -1, 4, Trial.OUTSIDE, 8);
    }

    private static void copiesAreApart() {
        Trial.number("&a=@2;&b=$a;&c=a{0,5};&d=b[0];~b;~c;d", 0, 0, 0);
        Trial.number("&a=@2;&b=$a;&c=b{0,5};&d=a[0];~a;~c;d", 0, 0, 0);
        new Trial().good("A()1=&a=@3;&b=a{1,7};&c=$b;~b;c{0,6}", 1).givesRow('A', 6, 7, 0);
        // The second row takes the room of the first, whose numbers must not show.
        new Trial().good("A()1=&a=@3;&b=a{1,7};~b;@3", 1).givesRow('A', 0, 0, 0).givesRow('A', 0, 0, 0);
    }

    private static void calls() {
        new Trial().good("A(m0,n0)0=((m*10)+n)", 1).good("B(a0,b0)0=A(A(1,2),A(b,A(a,a)))", 2).arguments(3, 4)
                .givesNumber('B', 193);
        new Trial().good("A(n0)0=?(n<2)(n|(A((n-1))+A((n-2))))", 1).arguments(6).givesNumber('A', 8);
        new Trial().good("A(a1,b1)1=~a;b", 1).good("B()1=&a=@2;A(@1,a{0,3})", 2).givesRow('B', 3, 0);
        // A callee's variables are its own, also where they have the caller's names.
        new Trial().good("A(n0)0=&m=9;(n+m)", 1).good("B(m0,n0)0=((A(1)*100)+((m*10)+n))", 2).arguments(3, 4)
                .givesNumber('B', 1034);
        new Trial().good("A(m0,n0)0=(m-n)", 1).good("B(n0,m0)0=A(m,n)", 2).arguments(10, 3).givesNumber('B', -7);
    }

    private static void failures() {
        Trial.failure("(1/n)", 0, 0, Trial.DIVIDED, 3);
        Trial.failure("&a=@1;(a[1]+~a;(1/0))", 0, 0, Trial.OUTSIDE, 6);
    }

    private static void sizes() {
        Trial.failure("&a=@m;~a;0", -1, 0, Trial.BELOW_0, 3);
        Trial.failure("&a=@m;~a;0", Long.MIN_VALUE, 0, Trial.BELOW_0, 3);
        Trial.failure("&a=@m;~a;0", 41, 0, Trial.TOO_MUCH, 3);
        Trial.failure("&a=@m;~a;0", 1L << 32, 0, Trial.TOO_MUCH, 3);
        Trial.failure("&a=%m,n;~a;0", -1, 0, Trial.BELOW_0, 4);
        Trial.failure("&a=%m,n;~a;0", 0, -1, Trial.BELOW_0, 4);
        Trial.failure("&a=%m,n;~a;0", 41, -1, Trial.BELOW_0, 4);
        Trial.failure("&a=%m,n;~a;0", -1, 41, Trial.BELOW_0, 4);
        Trial.failure("&a=%m,n;~a;0", 41, 0, Trial.TOO_MUCH, 4);
        Trial.failure("&a=%m,n;~a;0", 0, 41, Trial.TOO_MUCH, 4);
        Trial.failure("&a=%m,n;~a;0", 1L << 32, 1L << 32, Trial.TOO_MUCH, 4);
        Trial.failure("&a=%m,n;~a;0", 3, 14, Trial.TOO_MUCH, 4);
        Trial.failure("&a=%m,(1/n);~a;0", -1, 0, Trial.DIVIDED, 6);
        Trial.number("&a=%m,n;~a;0", 5, 8, 0);
        Trial.number("&a=%m,n;~a;0", 40, 1, 0);
        Trial.number("&a=%m,n;~a;0", 1, 40, 0);
        Trial.number("&a=%m,n;~a;0", 40, 0, 0);
        Trial.number("&a=%m,n;~a;0", 0, 40, 0);
        Trial.number("&a=@m;~a;0", 40, 0, 0);
        Trial.failure("&a=@2;&b=a[m];~a;b", 2, 0, Trial.OUTSIDE, 6);
        Trial.failure("&a=@2;&b=a[m];~a;b", -1, 0, Trial.OUTSIDE, 6);
        Trial.failure("&a=@2;&b=a[m];~a;b", 1L << 32, 0, Trial.OUTSIDE, 6);
        Trial.failure("&a=@2;&b=a{m,(1/n)};~b;0", 2, 0, Trial.DIVIDED, 9);
        Trial.failure("&a=@2;&b=a{m,n};~b;0", 2, 0, Trial.OUTSIDE, 7);
    }

    private static void tooManyExpressions() {
        String thirtyOne = "((((1+1)+(1+1))+((1+1)+(1+1)))+(((1+1)+(1+1))+((1+1)+(1+1))))";
        Trial t = new Trial().good("A()0=" + thirtyOne, 1).good("B()0=(((A()+A())+(A()+A()))+((A()+A())+(A()+A())))", 2)
                .good("C()0=((A()+A())+A())", 3).good("D()0=1", 4);
        t.givesNumber('A', 16).counted(31, 0, 0, 0);
        t.givesNumber('B', 8 * 16).counted(7 + 8 * 32, 0, 0, 0);
        t.givesNumber('C', 3 * 16).counted(2 + 3 * 32, 0, 0, 0);
        t.good("E()0=(B()+(C()+(A()+1)))", 5).givesNumber('E', 12 * 16 + 1).counted(399, 0, 0, 0);
        t.good("F()0=(B()+(C()+(A()+D())))", 6).givesNumber('F', 12 * 16 + 1).counted(400, 0, 0, 0);
        t.good("G()0=(B()+(C()+(A()+(1+1))))", 7).fails('G', Trial.TOO_MUCH).noResult().counted(400, 0, 0, 0);
        t.good("H()0=(B()+(C()+(A()+(1/0))))", 8).fails('H', Trial.TOO_MUCH).counted(400, 0, 0, 0);
    }

    private static void tooManyCalls() {
        new Trial().good("A(n0)0=?n((A((n-1))+1)|0)", 1).arguments(7).givesNumber('A', 7).arguments(8)
                .fails('A', Trial.TOO_MUCH).noResult();
        // Parts are worked out before the ninth call would begin, and may throw first.
        Trial t = new Trial().good("A(n0)0=A(((n+1)+(0/(7-n))))", 1).arguments(0);
        t.fails('A', Trial.DIVIDED).counted(8 * 10, 0, 0, 0);
        new Trial().good("A(n0)0=A((n+1))", 1).fails('A', Trial.TOO_MUCH).counted(8 * 4, 0, 0, 0);
        // Calls one after another, or among the parts of a call, don't lie in one another.
        new Trial().good("A(n0)0=(n+1)", 1).good("B()0=A(A(A(A(A(A(A(0)))))))", 2).good("C()0=A(A(A(A(A(A(A(B())))))))", 3)
                .givesNumber('C', 14);
    }

    private static void tooManyArrays() {
        Trial t = new Trial().good("A(a1,b1,c1,d1)0=~a;~b;~c;~d;1", 1);
        t.good("B(a1,b1,c1,d1)0=(A(@1,@1,@1,@1)+A(a,b,c,d))", 2).good("C()0=B(@1,@1,@1,@1)", 3);
        t.givesNumber('C', 2).counted(34, 8, 8, 0).givesNumber('C', 2);
        t.good("D(a1,b1,c1,d1)0=&e=@1;(A(@1,@1,@1,@1)+~e;A(a,b,c,d))", 4).good("E()0=D(@1,@1,@1,@1)", 5);
        t.fails('E', Trial.TOO_MUCH).noResult().counted(22, 8, 8, 0);
        t.x.clear();
        ninthArray("$e", Trial.TOO_MUCH);
        ninthArray("@0", Trial.TOO_MUCH);
        ninthArray("@41", Trial.TOO_MUCH);
        ninthArray("@(0-1)", Trial.BELOW_0);
        ninthArray("@(1/0)", Trial.DIVIDED);
        // What is made and given up in turn, or updated, is never there more than once.
        new Trial().good("A(n0)1=?n(&a=A((n-1));&b=@1;~a;b|@0)", 1).arguments(7).givesRow('A', 0).counted(88, 8, 2, 0);
        new Trial().good("A(a1,n0)1=?n(A(a{0,n},(n-1))|a)", 1).good("B()1=A(@1,6)", 2).givesRow('B', 1).counted(61, 1, 1, 6);
    }

    private static void ninthArray(String made, String due) {
        Trial t = new Trial().good("A(a1,b1,c1,d1)0=~a;~b;~c;~d;1", 1);
        t.good("B(a1,b1,c1,d1)0=&e=@1;(A(@1,@1,@1," + made + ")+~e;A(a,b,c,d))", 2).good("C()0=B(@1,@1,@1,@1)", 3);
        t.fails('C', due).noResult();
        Trial.due("arrays made", t.x.counted(1), 8);
        Trial.due("arrays there at most", t.x.counted(2), 8);
    }

    private static void deepestNesting() {
        new Trial().good("E(n0)0=n", 1).good("F()0=E(E(E(E(E(E(E(F())))))))", 2).fails('F', Trial.TOO_MUCH)
                .counted(64, 0, 0, 0).arguments(4).givesNumber('E', 4);
    }

    private static void aFailedRunLeavesNothingBehind() {
        Trial t = new Trial().good("A(n0)1=&a=@2;&b=$a;&c=$a;~b;~c;a{n,1}", 1);
        for (int i = 0; i < 10; i++) {
            t.arguments(2).fails('A', Trial.OUTSIDE).noResult().counted(12, 3, 3, 0);
            t.arguments(1).givesRow('A', 0, 1).counted(12, 3, 3, 1);
        }
    }
}
