/** Promise 12: counted tells what the latest run did, also if it threw. */
public final class Promise12CountedTest {
    public static void main(String[] args) {
        whatItCounts();
        everyFormCounts();
        ofTheLatestRun();
        ofARunThatThrew();
        Trial.end();
    }

    private static void whatItCounts() {
        Trial t = new Trial().good("A()1=&a=@2;&b=$a;&c=a{0,1};&d=c{1,1};~b;d", 1).gives('A', 1).counted(15, 2, 2, 2);
        int[] none = {-1, 4, 5, Integer.MIN_VALUE, Integer.MAX_VALUE};
        for (int what : none) {
            Trial.due("counted(" + what + ")", t.x.counted(what), 0);
        }
    }

    private static void everyFormCounts() {
        begun("1234", 1);
        begun("n", 1);
        begun("(1+n)", 3);
        begun("?n(1|(2+3))", 5);
        begun("?1(1|(2+3))", 3);
        begun("&a=n;2", 3);
        begun("&a=@1;~a;2", 5);
        begun("&a=%1,2;~a;2", 6);
        begun("&a=@1;(#a+~a;1)", 7);
        begun("&a=%1,2;(^a+~a;1)", 8);
        begun("&a=@1;(a[0]+~a;1)", 8);
        begun("&a=%1,2;(a[0,1]+~a;1)", 10);
        begun("&a=@1;&b=a{0,1};~b;1", 9);
        begun("&a=%1,2;&b=a{0,1,1};~b;1", 11);
        begun("&a=@1;&b=$a;~b;~a;1", 8);
        begun("B(1,2)", 6);
    }

    private static void begun(String expression, int due) {
        Trial t = new Trial().good("B(a0,b0)0=(a+b)", 1).good("A(n0)0=" + expression, 2).gives('A', 0);
        Trial.due("counted(0) of " + expression, t.x.counted(0), due);
    }

    private static void ofTheLatestRun() {
        Trial t = new Trial().good("A()1=&a=@2;a{0,1}", 1).good("B()0=1", 2).gives('A', 1).counted(6, 1, 1, 1);
        t.fails('C', Trial.NOT_RUN).counted(6, 1, 1, 1);
        t.gives('A', 1).counted(6, 1, 1, 1).gives('B', 0).counted(1, 0, 0, 0);
        t.x.clear();
        t.ill("A", 1).counted(1, 0, 0, 0);
    }

    private static void ofARunThatThrew() {
        Trial t = new Trial().good("A(n0)1=&a=@2;&b=a{0,1};b{n,(2/n)}", 1);
        t.arguments(1).gives('A', 1).counted(12, 1, 1, 2);
        t.arguments(0).fails('A', Trial.DIVIDED).counted(12, 1, 1, 1);
        t.arguments(2).fails('A', Trial.OUTSIDE).counted(12, 1, 1, 1);
        t.good("B(n0)1=&a=@1;&b=@n;~a;b", 2).arguments(-1).fails('B', Trial.BELOW_0).counted(6, 1, 1, 0);
        t.arguments(41).fails('B', Trial.TOO_MUCH).counted(6, 1, 1, 0);
        t.fails('C', Trial.NOT_RUN).counted(6, 1, 1, 0);
        // An array that has been given up is not there any more when the next is made.
        t.good("C()1=&a=@1;~a;&b=@1;~b;@1", 3).gives('C', 1).counted(10, 3, 1, 0);
    }
}
