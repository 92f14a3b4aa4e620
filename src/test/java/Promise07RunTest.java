/** Promise 7: run works a function out, or throws; what the running of each form does is in TermsRunningTest. */
public final class Promise07RunTest {
    public static void main(String[] args) {
        firstArguments();
        theResult();
        notDefined();
        noNumberParameter();
        theResultStays();
        noResultThen();
        aFailedRunLeavesNothingBehind();
        Trial.end();
    }

    private static void firstArguments() {
        Trial.sentence("Runs a function with the first arguments");
        Trial t = new Trial().arguments(1, 2, 3, 4).good("A()0=9", 1).good("B(a0)0=a", 2).good("C(a0,b0)0=((a*10)+b)", 3)
                .good("D(a0,b0,c0)0=((((a*10)+b)*10)+c)", 4).good("E(a0,b0,c0,d0)0=((((((a*10)+b)*10)+c)*10)+d)", 5);
        t.givesNumber('A', 9).givesNumber('B', 1).givesNumber('C', 12).givesNumber('D', 123).givesNumber('E', 1234);
        new Trial().arguments(1, 2).good("A(t0,a0)0=((t*10)+a)", 1).givesNumber('A', 12);
    }

    private static void theResult() {
        Trial.sentence("the RESULT is what it gives; its type");
        Trial t = new Trial().good("A(n0)0=(n+1)", 1).good("B(n0)1=&a=@2;a{0,n}", 2).good("C(n0)2=&a=%2,1;a{1,0,n}", 3);
        t.arguments(6).givesNumber('A', 7).givesRow('B', 6, 0).givesTable('C', 2, 1, 0, 6);
        t.givesRow('B', 6, 0).givesNumber('A', 7);
        new Trial().good("A(n0)1=&r=@n;&q=r{0,(n*n)};q{(n-1),7}", 1).arguments(3).givesRow('A', 9, 0, 7)
                .arguments(1).givesRow('A', 7).arguments(0).fails('A', Trial.OUTSIDE).arguments(-2).fails('A', Trial.BELOW_0)
                .arguments(41).fails('A', Trial.TOO_MUCH).arguments(40).gives('A', 1);
        new Trial().good("A(m0,n0)0=((m*10)+n)", 1).good("B(a0,b0)0=A(A(1,2),A(b,A(a,a)))", 2).arguments(3, 4)
                .givesNumber('B', 193);
    }

    private static void notDefined() {
        Trial.sentence("IllegalArgumentException: it isn't defined");
        Trial t = new Trial().good("B()0=5", 1).good("G()0=6", 2);
        char[] none = {'A', 'C', 'F', 'H', 'I', '@', 'a', 'b', 'B' + 256, 0, '\uffff'};
        for (char c : none) {
            t.fails(c, Trial.NOT_RUN).noResult();
        }
        t.givesNumber('B', 5).givesNumber('G', 6);
        t.x.clear();
        t.fails('B', Trial.NOT_RUN).fails('G', Trial.NOT_RUN);
        new Trial().good("A()0=1", 1).good("H()0=8", 2).fails('@', Trial.NOT_RUN).fails('I', Trial.NOT_RUN)
                .givesNumber('A', 1).givesNumber('H', 8);
    }

    private static void noNumberParameter() {
        Trial.sentence("or a parameter is no number");
        String[] heads = {"a1", "a2", "a1,n0", "n0,a1", "n0,a2", "n0,m0,a1", "n0,m0,l0,a1", "a2,n0,m0,l0"};
        for (String head : heads) {
            new Trial().good("A(" + head + ")0=~a;1", 1).fails('A', Trial.NOT_RUN).noResult().counted(0, 0, 0, 0);
        }
        new Trial().good("A(a0,b0,c0,d0)0=1", 1).givesNumber('A', 1);
    }

    private static void theResultStays() {
        Trial.sentence("(the result stays)");
        Trial t = new Trial().good("A()0=5", 1).good("B()1=&a=@2;a{1,6}", 2).good("C()2=&a=%1,2;a{0,1,7}", 3)
                .good("D(a1)0=~a;1", 4);
        char[] none = {'D', 'E', 'I'};
        for (char c : none) {
            t.fails(c, Trial.NOT_RUN).noResult();
        }
        t.gives('A', 0);
        for (char c : none) {
            t.fails(c, Trial.NOT_RUN).counted(1, 0, 0, 0);
            Trial.due("kind", t.x.kind(), 0);
            Trial.due("value", t.x.value(), 5);
        }
        t.gives('B', 1);
        for (char c : none) {
            t.fails(c, Trial.NOT_RUN).counted(6, 1, 1, 1);
            Trial.due("kind", t.x.kind(), 1);
            Trial.due("cell", t.x.cell(1, 0), 6);
        }
        t.gives('C', 2);
        for (char c : none) {
            t.fails(c, Trial.NOT_RUN).counted(8, 1, 1, 1);
            Trial.due("kind", t.x.kind(), 2);
            Trial.due("cell", t.x.cell(0, 1), 7);
        }
    }

    private static void noResultThen() {
        Trial.sentence("The others: there is no result then");
        String[] failing = {"(1/0)", "&a=@(0-1);~a;1", "&a=@1;(a[1]+~a;1)", "&a=@41;~a;1", "D()"};
        String[] thrown = {Trial.DIVIDED, Trial.BELOW_0, Trial.OUTSIDE, Trial.TOO_MUCH, Trial.TOO_MUCH};
        for (int i = 0; i < failing.length; i++) {
            Trial t = new Trial().good("A()0=5", 1).good("B()1=@2", 2).good("C()2=%1,2", 3).good("D()0=" + failing[i], 4);
            t.fails('D', thrown[i]).noResult();
            t.gives('A', 0).fails('D', thrown[i]).noResult();
            t.gives('B', 1).fails('D', thrown[i]).noResult();
            t.gives('C', 2).fails('D', thrown[i]).noResult();
            t.fails('E', Trial.NOT_RUN).noResult().gives('A', 0);
        }
    }

    private static void aFailedRunLeavesNothingBehind() {
        Trial.sentence("Runs a function", "also after one that threw");
        Trial t = new Trial().good("A(n0)1=&a=@2;&b=$a;&c=$a;~b;~c;a{n,1}", 1);
        for (int i = 0; i < 10; i++) {
            t.arguments(2).fails('A', Trial.OUTSIDE).noResult().counted(12, 3, 3, 0);
            t.arguments(1).givesRow('A', 0, 1).counted(12, 3, 3, 1);
        }
    }
}
