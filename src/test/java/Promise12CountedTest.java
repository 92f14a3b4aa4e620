/** Promise 12: counted tells what the latest run did, also if it threw. */
public final class Promise12CountedTest {
    public static void main(String[] args) {
        beforeARun();
        expressionsBegun();
        arraysMade();
        arraysThereAtMost();
        updatesMade();
        ofTheLatestRun();
        alsoIfItThrew();
        butIllegalArgument();
        otherwise();
        Trial.end();
    }

    private static void beforeARun() {
        Trial.sentence("Of the latest run", "there was none");
        new Trial().counted(0, 0, 0, 0).good("A()0=1", 1).counted(0, 0, 0, 0).fails('B', Trial.NOT_RUN).counted(0, 0, 0, 0);
    }

    private static void expressionsBegun() {
        Trial.sentence("what 0 how many expressions were begun");
        begun("1234", 1);
        begun("n", 1);
        begun("(1+n)", 3);
        begun("?n(1|(2+3))", 5);
        begun("?1(1|(2+3))", 3);
        begun("&a=n;2", 3);
        begun("&a=@1;~a;2", 5);
        begun("&a=%1,2;~a;2", 6);
        begun("&a=@1;(#a+~a;1)", 7);
        begun("&a=%1,2;(^a+~a;1)", 8);
        begun("&a=@1;(a[0]+~a;1)", 8);
        begun("&a=%1,2;(a[0,1]+~a;1)", 10);
        begun("&a=@1;&b=a{0,1};~b;1", 9);
        begun("&a=%1,2;&b=a{0,1,1};~b;1", 11);
        begun("&a=@1;&b=$a;~b;~a;1", 8);
        begun("B(1,2)", 6);
    }

    private static void begun(String expression, int due) {
        Trial t = new Trial().good("B(a0,b0)0=(a+b)", 1).good("A(n0)0=" + expression, 2).gives('A', 0);
        Trial.due("counted(0) of " + expression, t.x.counted(0), due);
    }

    private static void arraysMade() {
        Trial.sentence("1 how many arrays were made");
        new Trial().good("A()0=1", 1).gives('A', 0).counted(1, 0, 0, 0);
        new Trial().good("A()1=@0", 1).gives('A', 1).counted(2, 1, 1, 0);
        new Trial().good("A()2=%0,0", 1).gives('A', 2).counted(3, 1, 1, 0);
        new Trial().good("A()1=&a=@1;&b=$a;~a;b", 1).gives('A', 1).counted(7, 2, 2, 0);
        new Trial().good("A()1=&a=@1;a{0,1}", 1).gives('A', 1).counted(6, 1, 1, 1);
    }

    private static void arraysThereAtMost() {
        Trial.sentence("2 how many were there at most at a time");
        new Trial().good("A()1=&a=@1;~a;&b=@1;~b;@1", 1).gives('A', 1).counted(10, 3, 1, 0);
        new Trial().good("A()1=&a=@1;&b=@1;~a;~b;@1", 1).gives('A', 1).counted(10, 3, 2, 0);
        new Trial().good("A()0=&a=@1;&b=@1;~a;~b;&c=@1;~c;1", 1).gives('A', 0).counted(13, 3, 2, 0);
    }

    private static void updatesMade() {
        Trial.sentence("3 how many updates by v{..} were made");
        new Trial().good("A()1=&a=@2;&b=$a;&c=a{0,1};&d=c{1,1};~b;d", 1).gives('A', 1).counted(15, 2, 2, 2);
        new Trial().good("A()2=&a=%1,1;&b=a{0,0,0};b{0,0,0}", 1).gives('A', 2).counted(13, 1, 1, 2);
        // One that throws has not been made.
        new Trial().good("A()1=&a=@2;&b=a{0,1};b{2,1}", 1).fails('A', Trial.OUTSIDE).counted(10, 1, 1, 1);
    }

    private static void ofTheLatestRun() {
        Trial.sentence("Of the latest run");
        Trial t = new Trial().good("A()1=&a=@2;a{0,1}", 1).good("B()0=1", 2).gives('A', 1).counted(6, 1, 1, 1);
        t.gives('A', 1).counted(6, 1, 1, 1).gives('B', 0).counted(1, 0, 0, 0).gives('A', 1);
        t.x.clear();
        t.illAt("A!").wrongAt("A()0=!n").arguments(1).good("A()0=(1+1)", 1).counted(6, 1, 1, 1);
    }

    private static void alsoIfItThrew() {
        Trial.sentence("also if it threw");
        Trial t = new Trial().good("A(n0)1=&a=@2;&b=a{0,1};b{n,(2/n)}", 1);
        t.arguments(1).gives('A', 1).counted(12, 1, 1, 2);
        t.arguments(0).fails('A', Trial.DIVIDED).counted(12, 1, 1, 1);
        t.arguments(2).fails('A', Trial.OUTSIDE).counted(12, 1, 1, 1);
        t.good("B(n0)1=&a=@1;&b=@n;~a;b", 2).arguments(-1).fails('B', Trial.BELOW_0).counted(6, 1, 1, 0);
        t.arguments(41).fails('B', Trial.TOO_MUCH).counted(6, 1, 1, 0);
        t.arguments(40).gives('B', 1).counted(8, 2, 2, 0);
        t.good("C()0=(1/0)", 3).fails('C', Trial.DIVIDED).counted(3, 0, 0, 0);
    }

    private static void butIllegalArgument() {
        Trial.sentence("(but IllegalArgumentException)");
        Trial t = new Trial().good("A()1=&a=@2;a{0,1}", 1).good("B(a1)0=~a;1", 2).gives('A', 1);
        char[] notRun = {'B', 'C', 'I'};
        for (char c : notRun) {
            t.fails(c, Trial.NOT_RUN).counted(6, 1, 1, 1);
        }
        // The latest run that counts may be one that threw.
        t.good("C()1=&a=@1;a{1,1}", 3).fails('C', Trial.OUTSIDE).fails('B', Trial.NOT_RUN).counted(6, 1, 1, 0);
    }

    private static void otherwise() {
        Trial.sentence("0 otherwise");
        Trial t = new Trial().good("A()1=&a=@2;a{0,1}", 1).gives('A', 1).counted(6, 1, 1, 1);
        int[] none = {-1, 4, 5, -4, Integer.MIN_VALUE, Integer.MAX_VALUE};
        for (int what : none) {
            Trial.due("counted(" + what + ")", t.x.counted(what), 0);
            Trial.due("counted(" + what + ") of a new object", new SoleArrays().counted(what), 0);
        }
    }
}
