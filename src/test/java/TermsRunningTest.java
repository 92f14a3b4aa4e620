/** The section 'Terms', running: each sentence on its boundary and a step beyond it. */
public final class TermsRunningTest {
    private static final long LEAST = Long.MIN_VALUE;
    private static final long MOST = Long.MAX_VALUE;
    private static final long FAR = 1L << 32;
    private static final String ROW = "&a=@3;&b=a{0,5};&c=b{2,7};";
    private static final String TABLE = "&a=%2,3;&b=a{0,0,1};&c=b{0,2,3};&d=c{1,0,4};&e=d{1,2,6};";

    public static void main(String[] args) {
        wrapping();
        partsFromLeftToRight();
        partsBeforeItself();
        oneOfBoth();
        comparisons();
        behindThePoint();
        newRows();
        newTables();
        readings();
        updates();
        updatesInPlace();
        howMany();
        copies();
        givenUp();
        boundToParameters();
        secondIsZero();
        sizesBelowZero();
        indexesOfRows();
        indexesOfTables();
        indexesOfTheEmpty();
        updatesOutside();
        tooManyExpressions();
        callsInOneAnother();
        callsBesideOneAnother();
        deepestNesting();
        moreThanForty();
        ninthArray();
        ninthCopy();
        roomOfWhatWasGivenUp();
        sizeBelowZeroGoesFirst();
        Trial.end();
    }

    private static void wrapping() {
        Trial.sentence("NUMBER (a long, wrapping)");
        Trial.number("(m+n)", MOST, 0, MOST);
        Trial.number("(m+n)", MOST, 1, LEAST);
        Trial.number("(m+n)", LEAST, -1, MOST);
        Trial.number("(m-n)", LEAST, 0, LEAST);
        Trial.number("(m-n)", LEAST, 1, MOST);
        Trial.number("(m-n)", MOST, -1, LEAST);
        Trial.number("(0-m)", LEAST, 0, LEAST);
        Trial.number("(m*n)", MOST, 1, MOST);
        Trial.number("(m*n)", MOST, 2, -2);
        Trial.number("(m*n)", LEAST, -1, LEAST);
        Trial.number("(m*n)", FAR, FAR, 0);
        Trial.number("(m/n)", LEAST, -1, LEAST);
        Trial.number("(m/n)", MOST, -1, -MOST);
        Trial.number("&a=@1;&b=a{0,m};&c=b[0];~b;(c+n)", MOST, 1, LEAST);
    }

    private static void partsFromLeftToRight() {
        Trial.sentence("Expressions are worked out in the same order, parts from left to right");
        // With m = 0 and n = 1, # divides by 0 and $ lies outside a.
        String[] forms = {"(#+$)", "(#-$)", "(#*$)", "(#/$)", "(#<$)", "(#=$)", "?#($|1)", "&c=#;$", "&c=%#,$;~c;1",
            "&c=%1,1;&d=c[#,$];~c;d", "&c=%1,1;&d=c{#,$,0};~d;1", "&c=%1,1;&d=c{#,0,$};~d;1",
            "&c=%1,1;&d=c{0,#,$};~d;1", "&c=@1;&d=c{#,$};~d;1", "B(#,$,1,1)", "B(#,1,1,$)", "B(1,#,$,1)", "B(1,1,#,$)",
            "B(#,B(1,1,1,$),1,1)"};
        for (String form : forms) {
            foundFirst(form.replace("#", "(1/m)").replace("$", "a[n]"), Trial.DIVIDED);
            foundFirst(form.replace("#", "a[n]").replace("$", "(1/m)"), Trial.OUTSIDE);
        }
        foundFirst("?(1/m)(a[n]|a[n])", Trial.DIVIDED);
        foundFirst("&c=@(1/m);~c;a[n]", Trial.DIVIDED);
        foundFirst("&c=@a[n];~c;(1/m)", Trial.OUTSIDE);
    }

    private static void foundFirst(String expression, String due) {
        new Trial().good("B(a0,b0,c0,d0)0=d", 1).good("A(m0,n0)0=&a=@1;&b=" + expression + ";~a;b", 2).arguments(0, 1)
                .fails('A', due).noResult();
    }

    private static void partsBeforeItself() {
        Trial.sentence("What is found first is thrown");
        Trial.failure("&a=@2;&b=a{m,(1/n)};~b;0", 2, 0, Trial.DIVIDED, 9);
        Trial.failure("&a=@2;&b=a{m,(1/n)};~b;0", 2, 1, Trial.OUTSIDE, 9);
        Trial.failure("&a=%2,2;&b=a[m,(1/n)];~a;b", 2, 0, Trial.DIVIDED, 10);
        Trial.failure("&a=%m,(1/n);~a;0", -1, 0, Trial.DIVIDED, 6);
        Trial.failure("&a=%m,(1/n);~a;0", 41, 0, Trial.DIVIDED, 6);
        Trial.failure("&a=%m,(1/n);~a;0", -1, 1, Trial.BELOW_0, 6);
        Trial.failure("&a=%m,(41+n);~a;0", -1, 0, Trial.BELOW_0, 6);
        Trial.failure("&a=@1;(a[1]+~a;(1/0))", 0, 0, Trial.OUTSIDE, 6);
    }

    private static void oneOfBoth() {
        Trial.sentence("of ? only one of both, the second if the first e isn't 0, else the third");
        long[] notZero = {1, -1, 2, FAR, LEAST, MOST};
        for (long m : notZero) {
            Trial.number("?m(10|20)", m, 0, 10);
            Trial.number("?m(10|(1/0))", m, 0, 10);
        }
        Trial.number("?m(10|20)", 0, 0, 20);
        Trial.number("?m((1/0)|20)", 0, 0, 20);
        Trial.failure("?m((1/0)|20)", 1, 0, Trial.DIVIDED, 5);
        Trial.failure("?m(10|(1/0))", 0, 0, Trial.DIVIDED, 5);
        new Trial().good("A(m0)1=&a=@2;?m(~a;@1|a)", 1).arguments(1).givesRow('A', 0).counted(8, 2, 1, 0)
                .arguments(0).givesRow('A', 0, 0).counted(6, 1, 1, 0);
    }

    private static void comparisons() {
        Trial.sentence("< and = give 1 or 0");
        long[][] pairs = {{-1, 0}, {0, 1}, {LEAST, MOST}, {LEAST, LEAST + 1}, {MOST - 1, MOST}, {3, 3 + FAR}};
        for (long[] pair : pairs) {
            Trial.number("(m<n)", pair[0], pair[1], 1);
            Trial.number("(m<n)", pair[1], pair[0], 0);
            Trial.number("(m<n)", pair[0], pair[0], 0);
            Trial.number("(m=n)", pair[0], pair[1], 0);
            Trial.number("(m=n)", pair[1], pair[0], 0);
            Trial.number("(m=n)", pair[1], pair[1], 1);
        }
    }

    private static void behindThePoint() {
        Trial.sentence("/ leaves out what is behind the point");
        Trial.number("(m/n)", 6, 2, 3);
        Trial.number("(m/n)", 7, 2, 3);
        Trial.number("(m/n)", -7, 2, -3);
        Trial.number("(m/n)", 7, -2, -3);
        Trial.number("(m/n)", -7, -2, 3);
        Trial.number("(m/n)", 1, 2, 0);
        Trial.number("(m/n)", -1, 2, 0);
        Trial.number("(m/n)", 0, 5, 0);
        Trial.number("(m/n)", MOST, MOST, 1);
        Trial.number("(m/n)", MOST, LEAST, 0);
    }

    private static void newRows() {
        Trial.sentence("@ makes a row of so many zeros");
        int[] sizes = {0, 1, 2, 39, 40};
        for (int size : sizes) {
            new Trial().good("A(n0)1=@n", 1).arguments(size).givesRow('A', new long[size]);
        }
        // The second row takes the room of the first, whose numbers must not show.
        new Trial().good("A()1=&a=@3;&b=a{1,7};~b;@3", 1).givesRow('A', 0, 0, 0).givesRow('A', 0, 0, 0);
    }

    private static void newTables() {
        Trial.sentence("% a table of so many rows and columns");
        int[][] sizes = {{0, 0}, {0, 1}, {1, 0}, {1, 1}, {2, 3}, {3, 2}, {5, 8}, {8, 5}, {1, 40}, {40, 1}, {0, 40}, {40, 0}};
        for (int[] size : sizes) {
            new Trial().good("A(m0,n0)2=%m,n", 1).arguments(size[0], size[1])
                    .givesTable('A', size[0], size[1], new long[size[0] * size[1]]);
        }
        new Trial().good("A()2=&a=%2,2;&b=a{1,1,7};~b;%2,2", 1).givesTable('A', 2, 2, 0, 0, 0, 0);
    }

    private static void readings() {
        Trial.sentence("v[..] is the number there, the row's before the column's");
        long[] row = {5, 0, 7};
        for (int i = 0; i < 3; i++) {
            Trial.number(ROW + "&d=c[m];~c;d", i, 0, row[i]);
        }
        long[][] table = {{1, 0, 3}, {4, 0, 6}};
        for (int i = 0; i < 2; i++) {
            for (int j = 0; j < 3; j++) {
                Trial.number(TABLE + "&f=e[m,n];~e;f", i, j, table[i][j]);
            }
        }
    }

    private static void updates() {
        Trial.sentence("v{..} puts the last number there");
        Trial t = new Trial().good("A(i0,n0)1=" + ROW + "c{i,n}", 1);
        t.arguments(0, LEAST).givesRow('A', LEAST, 0, 7).arguments(1, MOST).givesRow('A', 5, MOST, 7).arguments(2, 0)
                .givesRow('A', 5, 0, 0);
        t = new Trial().good("A(i0,j0,n0)2=&a=%2,3;&b=a{0,0,1};&c=b{1,2,6};c{i,j,n}", 1);
        t.arguments(0, 0, 9).givesTable('A', 2, 3, 9, 0, 0, 0, 0, 6);
        t.arguments(0, 2, 9).givesTable('A', 2, 3, 1, 0, 9, 0, 0, 6);
        t.arguments(1, 0, 9).givesTable('A', 2, 3, 1, 0, 0, 9, 0, 6);
        t.arguments(1, 2, 9).givesTable('A', 2, 3, 1, 0, 0, 0, 0, 9);
        new Trial().good("A()1=&a=@40;&b=a{39,1};b{0,2}", 1).gives('A', 1);
        new Trial().good("A()1=&a=@1;&b=a{0,1};b{0,2}", 1).givesRow('A', 2).counted(10, 1, 1, 2);
    }

    private static void updatesInPlace() {
        Trial.sentence("what comes of them is what would come if each made a new row or table");
        Trial.number("&a=@2;&b=$a;&c=a{0,5};&d=b[0];~b;~c;d", 0, 0, 0);
        Trial.number("&a=@2;&b=$a;&c=b{0,5};&d=a[0];~a;~c;d", 0, 0, 0);
        Trial.number("&a=@2;&b=a{0,5};&c=$b;&d=b{0,6};&e=(c[0]+d[0]);~c;~d;e", 0, 0, 11);
        new Trial().good("A(a1,k0)1=?(k<#a)(A(a{k,(k*k)},(k+1))|a)", 1).good("B(n0)1=A(@n,0)", 2).arguments(5)
                .givesRow('B', 0, 1, 4, 9, 16).arguments(0).givesRow('B');
        new Trial().good("A()1=&a=@2;&b=a{0,3};b{1,(b[0]+1)}", 1).givesRow('A', 3, 4);
    }

    private static void howMany() {
        Trial.sentence("# is how many numbers a row, rows a table has, ^ how many columns");
        int[] sizes = {0, 1, 39, 40};
        for (int size : sizes) {
            Trial.number("&a=@m;(#a+~a;0)", size, 0, size);
            Trial.number("&a=%m,n;((#a*100)+(^a+~a;0))", size, 1, size * 100 + 1);
            Trial.number("&a=%m,n;((#a*100)+(^a+~a;0))", 1, size, 100 + size);
            Trial.number("&a=%m,n;((#a*100)+(^a+~a;0))", size, 0, size * 100);
            Trial.number("&a=%m,n;((#a*100)+(^a+~a;0))", 0, size, size);
        }
    }

    private static void copies() {
        Trial.sentence("$ makes another array with the same numbers");
        new Trial().good("A()1=" + ROW + "&d=$c;~c;d", 1).givesRow('A', 5, 0, 7).counted(15, 2, 2, 2);
        new Trial().good("A()2=&a=%2,2;&b=a{0,1,5};&c=$b;~b;c{1,0,6}", 1).givesTable('A', 2, 2, 0, 5, 6, 0)
                .counted(16, 2, 2, 2);
        new Trial().good("A(n0)1=&a=@n;&b=$a;~a;b", 1).arguments(0).givesRow('A').counted(7, 2, 2, 0)
                .arguments(40).givesRow('A', new long[40]).counted(7, 2, 2, 0);
        new Trial().good("A(m0,n0)2=&a=%m,n;&b=$a;~a;b", 1).arguments(0, 40).givesTable('A', 0, 40)
                .arguments(40, 0).givesTable('A', 40, 0).arguments(5, 8).givesTable('A', 5, 8, new long[40]);
    }

    private static void givenUp() {
        Trial.sentence("what is given up by ~ isn't there any more");
        new Trial().good("A()1=&a=@1;~a;&b=@1;~b;@1", 1).givesRow('A', 0).counted(10, 3, 1, 0);
        new Trial().good("A()1=&a=@1;&b=@1;~a;~b;@1", 1).givesRow('A', 0).counted(10, 3, 2, 0);
        // It is given up before what stands behind it is worked out, also in a call.
        new Trial().good("A(a1)1=~a;@2", 1).good("B()1=A(A(A(@1)))", 2).givesRow('B', 0, 0).counted(14, 4, 1, 0);
    }

    private static void boundToParameters() {
        Trial.sentence("A function's parts are bound to its parameters");
        new Trial().good("A(d0,c0,b0,a0)0=((a*1000)+((b*100)+((c*10)+d)))", 1).good("B()0=A(4,3,2,1)", 2)
                .givesNumber('B', 1234);
        new Trial().good("A()0=7", 1).good("B()0=A()", 2).givesNumber('B', 7);
        // A callee's variables are its own, also where they have the caller's names.
        new Trial().good("A(n0)0=&m=9;(n+m)", 1).good("B(m0,n0)0=((A(1)*100)+((m*10)+n))", 2).arguments(3, 4)
                .givesNumber('B', 1034);
        new Trial().good("A(m0,n0)0=(m-n)", 1).good("B(n0,m0)0=A(m,n)", 2).arguments(10, 3).givesNumber('B', -7);
        new Trial().good("A(a1,b1)1=~a;b", 1).good("B()1=&a=@2;A(@1,a{0,3})", 2).givesRow('B', 3, 0);
        new Trial().good("A(n0)0=?(n<2)(n|(A((n-1))+A((n-2))))", 1).arguments(6).givesNumber('A', 8);
    }

    private static void secondIsZero() {
        Trial.sentence("by / ArithmeticException if the second is 0");
        long[] firsts = {0, 1, -1, LEAST, MOST};
        for (long first : firsts) {
            Trial.failure("(m/n)", first, 0, Trial.DIVIDED, 3);
            Trial.number("(m/n)", first, 1, first);
            Trial.number("(m/n)", first, -1, -first);
        }
        Trial.failure("(1/0)", 0, 0, Trial.DIVIDED, 3);
        Trial.number("(0/m)", FAR, 0, 0);
    }

    private static void sizesBelowZero() {
        Trial.sentence("by @ and % IllegalStateException if a size is below 0");
        long[] below = {-1, -2, -41, -FAR, LEAST};
        for (long size : below) {
            Trial.failure("&a=@m;~a;0", size, 0, Trial.BELOW_0, 3);
            Trial.failure("&a=%m,n;~a;0", size, 0, Trial.BELOW_0, 4);
            Trial.failure("&a=%m,n;~a;0", 0, size, Trial.BELOW_0, 4);
            Trial.failure("&a=%m,n;~a;0", size, size, Trial.BELOW_0, 4);
            Trial.failure("&a=%m,n;~a;0", 1, size, Trial.BELOW_0, 4);
        }
        Trial.number("&a=@m;~a;0", 0, 0, 0);
        Trial.number("&a=%m,n;~a;0", 0, 0, 0);
    }

    private static void indexesOfRows() {
        Trial.sentence("by v[..] and v{..} IndexOutOfBoundsException if an index isn't below its size, or is below 0",
                "v[..] of a row");
        long[] outside = {-1, 3, 4, -3, 40, FAR, FAR + 1, -FAR, LEAST, MOST};
        for (long i : outside) {
            Trial.failure(ROW + "&d=c[m];~c;d", i, 0, Trial.OUTSIDE, 14);
        }
        Trial.number(ROW + "&d=c[m];~c;d", 0, 0, 5);
        Trial.number(ROW + "&d=c[m];~c;d", 2, 0, 7);
        Trial.number("&a=@40;&b=a[m];~a;b", 39, 0, 0);
        Trial.failure("&a=@40;&b=a[m];~a;b", 40, 0, Trial.OUTSIDE, 6);
    }

    private static void indexesOfTables() {
        Trial.sentence("by v[..] and v{..} IndexOutOfBoundsException if an index isn't below its size, or is below 0",
                "v[..] of a table");
        // Some of these would be inside if the table were one long row.
        long[][] outside = {{-1, 0}, {2, 0}, {0, -1}, {0, 3}, {1, 3}, {1, -1}, {-1, 3}, {2, -3}, {2, 3}, {0, 5}, {-1, 5},
            {FAR, 0}, {0, FAR}, {LEAST, 0}, {0, LEAST}, {MOST, MOST}};
        for (long[] at : outside) {
            Trial.failure("&t=%2,3;&r=t[m,n];~t;r", at[0], at[1], Trial.OUTSIDE, 8);
        }
        Trial.number("&t=%2,3;&s=t{1,2,9};&r=s[m,n];~s;r", 1, 2, 9);
        Trial.number("&t=%2,3;&s=t{0,0,9};&r=s[m,n];~s;r", 0, 0, 9);
    }

    private static void indexesOfTheEmpty() {
        Trial.sentence("if an index isn't below its size", "of what is empty");
        Trial.failure("&a=@0;&b=a[m];~a;b", 0, 0, Trial.OUTSIDE, 6);
        Trial.failure("&a=@0;&b=a{m,1};~b;1", 0, 0, Trial.OUTSIDE, 7);
        int[][] sizes = {{0, 0}, {0, 5}, {5, 0}};
        for (int[] size : sizes) {
            Trial.failure("&a=%" + size[0] + "," + size[1] + ";&b=a[m,n];~a;b", 0, 0, Trial.OUTSIDE, 8);
            Trial.failure("&a=%" + size[0] + "," + size[1] + ";&b=a{m,n,1};~b;1", 0, 0, Trial.OUTSIDE, 9);
        }
    }

    private static void updatesOutside() {
        Trial.sentence("by v[..] and v{..} IndexOutOfBoundsException if an index isn't below its size, or is below 0",
                "v{..}");
        long[] outside = {-1, 2, 3, FAR, -FAR, LEAST, MOST};
        for (long at : outside) {
            Trial.failure("&a=@2;&b=a{m,n};~b;0", at, 1, Trial.OUTSIDE, 7);
            Trial.failure("&a=%2,2;&b=a{m,n,1};~b;0", at, 1, Trial.OUTSIDE, 9);
            Trial.failure("&a=%2,2;&b=a{m,n,1};~b;0", 1, at, Trial.OUTSIDE, 9);
        }
        for (long at = 0; at < 2; at++) {
            Trial.number("&a=@2;&b=a{m,n};&c=b[m];~b;c", at, 8, 8);
            Trial.number("&a=%2,2;&b=a{m,n,8};&c=b[m,n];~b;c", at, 1 - at, 8);
        }
        new Trial().good("A(n0)1=&a=@2;a{n,1}", 1).arguments(2).fails('A', Trial.OUTSIDE).counted(6, 1, 1, 0);
    }

    /** B takes 264 expressions to call and A 32, so that 397 are begun before the last of these. */
    private static Trial afterThreeHundredNinetySeven(String last) {
        String thirtyOne = "((((1+1)+(1+1))+((1+1)+(1+1)))+(((1+1)+(1+1))+((1+1)+(1+1))))";
        return new Trial().good("A()0=" + thirtyOne, 1).good("B()0=(((A()+A())+(A()+A()))+((A()+A())+(A()+A())))", 2)
                .good("C(n0)0=n", 3).good("D(n0)0=(B()+(A()+(A()+(A()+(A()+" + last + ")))))", 4);
    }

    private static void tooManyExpressions() {
        Trial.sentence("401 expressions would be begun");
        long sum = 12 * 16;
        afterThreeHundredNinetySeven("1").givesNumber('D', sum + 1).counted(398, 0, 0, 0);
        afterThreeHundredNinetySeven("C(n)").givesNumber('D', sum).counted(400, 0, 0, 0);
        afterThreeHundredNinetySeven("(1+n)").givesNumber('D', sum + 1).counted(400, 0, 0, 0);
        afterThreeHundredNinetySeven("(1/n)").fails('D', Trial.DIVIDED).noResult().counted(400, 0, 0, 0);
        afterThreeHundredNinetySeven("?n((1/0)|5)").givesNumber('D', sum + 5).counted(400, 0, 0, 0);
        String[] tooMany = {"C(C(n))", "(1+C(n))", "(C(1)/n)", "(1/(n+1))", "?C(n)(1|2)", "&a=@n;~a;5", "(1+(1+1))"};
        for (String last : tooMany) {
            afterThreeHundredNinetySeven(last).fails('D', Trial.TOO_MUCH).noResult();
        }
        afterThreeHundredNinetySeven("(1+C(n))").fails('D', Trial.TOO_MUCH).counted(400, 0, 0, 0)
                .givesNumber('C', 0).counted(1, 0, 0, 0);
        afterThreeHundredNinetySeven("&a=@n;~a;5").fails('D', Trial.TOO_MUCH).counted(400, 1, 1, 0)
                .arguments(-1).fails('D', Trial.BELOW_0).counted(400, 0, 0, 0);
    }

    private static void callsInOneAnother() {
        Trial.sentence("calls would lie nine in one another (the one that is run being the first)");
        new Trial().good("A(n0)0=?n((A((n-1))+1)|0)", 1).arguments(6).givesNumber('A', 6).arguments(7).givesNumber('A', 7)
                .arguments(8).fails('A', Trial.TOO_MUCH).noResult().arguments(0).givesNumber('A', 0);
        Trial t = new Trial().good("A(n0)0=?n(A((n-1))|5)", 1).good("B(n0)0=A(n)", 2);
        for (char name = 'C'; name <= 'H'; name++) {
            t.good(name + "(n0)0=" + (char) (name - 1) + "(n)", name - 'A' + 1);
        }
        t.givesNumber('H', 5).counted(17, 0, 0, 0).arguments(1).givesNumber('G', 5).fails('H', Trial.TOO_MUCH).noResult();
        new Trial().good("A()0=A()", 1).fails('A', Trial.TOO_MUCH).counted(8, 0, 0, 0);
        // Parts are worked out before the ninth call would begin, and may throw first.
        new Trial().good("A(n0)0=A((n+1))", 1).fails('A', Trial.TOO_MUCH).counted(8 * 4, 0, 0, 0);
        new Trial().good("A(n0)0=A(((n+1)+(0/(7-n))))", 1).fails('A', Trial.DIVIDED).counted(8 * 10, 0, 0, 0);
    }

    private static void callsBesideOneAnother() {
        Trial.sentence("calls would lie nine in one another",
                "not those one after another, nor among the parts of a call");
        new Trial().good("A(n0)0=(n+1)", 1).good("B()0=A(A(A(A(A(A(A(0)))))))", 2).good("C()0=A(A(A(A(A(A(A(B())))))))", 3)
                .givesNumber('C', 14);
        new Trial().good("A(n0)0=?n(A((n-1))|1)", 1).good("B(n0)0=(A(n)+(A(n)+A(n)))", 2).arguments(6).givesNumber('B', 3)
                .arguments(7).fails('B', Trial.TOO_MUCH);
        // 73 calls with the first, of which no more than three lie in one another.
        String eight = "(((*+*)+(*+*))+((*+*)+(*+*)))";
        new Trial().good("A(n0)0=n", 1).good("B(n0)0=" + eight.replace("*", "A(n)"), 2)
                .good("C()0=" + eight.replace("*", "B(1)"), 3).givesNumber('C', 64).counted(7 + 8 * (2 + 31), 0, 0, 0);
    }

    private static void deepestNesting() {
        Trial.sentence("Expressions lie at most 8 deep in one another", "in calls that lie 8 in one another");
        new Trial().good("E(n0)0=n", 1).good("F()0=E(E(E(E(E(E(E(F())))))))", 2).fails('F', Trial.TOO_MUCH)
                .counted(64, 0, 0, 0).arguments(4).givesNumber('E', 4);
        new Trial().good("E(n0)0=n", 1).good("F(n0)0=?n(E(E(E(E(F((n-1))))))|3)", 2).arguments(7).givesNumber('F', 3)
                .arguments(8).fails('F', Trial.TOO_MUCH);
    }

    private static void moreThanForty() {
        Trial.sentence("one would be made with more than 40 numbers, rows or columns");
        Trial.number("&a=@m;~a;0", 40, 0, 0);
        long[][] good = {{40, 0}, {0, 40}, {40, 1}, {1, 40}, {5, 8}, {8, 5}, {20, 2}, {3, 13}, {39, 1}, {6, 6}};
        for (long[] sizes : good) {
            Trial.number("&a=%m,n;~a;0", sizes[0], sizes[1], 0);
        }
        long[] tooMany = {41, 42, 9999, FAR, FAR + 1, MOST};
        for (long size : tooMany) {
            Trial.failure("&a=@m;~a;0", size, 0, Trial.TOO_MUCH, 3);
            Trial.failure("&a=%m,n;~a;0", size, 0, Trial.TOO_MUCH, 4);
            Trial.failure("&a=%m,n;~a;0", 0, size, Trial.TOO_MUCH, 4);
            Trial.failure("&a=%m,n;~a;0", size, size, Trial.TOO_MUCH, 4);
        }
        long[][] tooLarge = {{41, 1}, {1, 41}, {3, 14}, {14, 3}, {6, 7}, {21, 2}, {40, 2}, {2, 40}, {40, 40}};
        for (long[] sizes : tooLarge) {
            Trial.failure("&a=%m,n;~a;0", sizes[0], sizes[1], Trial.TOO_MUCH, 4);
        }
    }

    /** With n = 4 eight arrays are there where the last is made, if m isn't 0, for it to be the ninth. */
    private static Trial pairsAnd(String last) {
        return new Trial().good("A(n0,m0)0=?n(&a=@1;&b=%1,1;&c=A((n-1),m);~a;~b;c|?m(&a=" + last + ";~a;1|0))", 1);
    }

    private static void ninthArray() {
        Trial.sentence("a ninth array would be there");
        String[] made = {"@1", "@0", "%1,1", "%0,0", "@40"};
        for (String last : made) {
            Trial t = pairsAnd(last).arguments(4, 0).givesNumber('A', 0);
            Trial.due("arrays made", t.x.counted(1), 8);
            Trial.due("arrays there", t.x.counted(2), 8);
            t.arguments(3, 1).givesNumber('A', 1);
            Trial.due("arrays there of seven", t.x.counted(2), 7);
            t.arguments(4, 1).fails('A', Trial.TOO_MUCH).noResult();
            Trial.due("arrays made before the ninth", t.x.counted(1), 8);
            Trial.due("arrays there before the ninth", t.x.counted(2), 8);
        }
        // A run that failed leaves none behind for the next.
        pairsAnd("@1").arguments(4, 1).fails('A', Trial.TOO_MUCH).arguments(4, 0).givesNumber('A', 0);
    }

    private static void ninthCopy() {
        Trial.sentence("a ninth array would be there", "$ makes another array");
        Trial t = new Trial().good("A(n0)0=?n(&a=@1;&b=$a;&c=A((n-1));~a;~b;c|0)", 1).good("B(n0)0=&a=@1;&b=A(n);~a;b", 2);
        t.arguments(4).givesNumber('A', 0);
        Trial.due("arrays there, four of them copies", t.x.counted(2), 8);
        t.fails('B', Trial.TOO_MUCH).noResult();
        Trial.due("arrays made before the ninth", t.x.counted(1), 8);
        t.arguments(3).givesNumber('B', 0);
        Trial.due("arrays there, three of them copies", t.x.counted(2), 7);
    }

    private static void roomOfWhatWasGivenUp() {
        Trial.sentence("a ninth array would be there", "what is given up by ~ isn't there any more");
        new Trial().good("A(n0)1=?n(&a=A((n-1));&b=@1;~a;b|@0)", 1).arguments(7).givesRow('A', 0).counted(88, 8, 2, 0);
        // Twelve are made, but never more than eight are there.
        Trial t = new Trial().good("A(a1,b1,c1,d1)0=~a;~b;~c;~d;1", 1)
                .good("B(a1,b1,c1,d1)0=(A(@1,@1,@1,@1)+(A(@1,@1,@1,@1)+A(a,b,c,d)))", 2)
                .good("C()0=B(@1,@1,@1,@1)", 3).givesNumber('C', 3);
        Trial.due("arrays made", t.x.counted(1), 12);
        Trial.due("arrays there", t.x.counted(2), 8);
        // An update makes none.
        new Trial().good("A(a1,n0)1=?n(A(a{0,n},(n-1))|a)", 1).good("B()1=A(@1,6)", 2).givesRow('B', 1).counted(61, 1, 1, 6);
        // Nor does the result of an earlier run take room.
        Trial r = new Trial().good("A()1=@3", 1).good("B(n0)0=?n(&a=@1;&b=@1;&c=B((n-1));~a;~b;c|0)", 2);
        r.gives('A', 1).arguments(4).givesNumber('B', 0);
        Trial.due("arrays there", r.x.counted(2), 8);
    }

    private static void sizeBelowZeroGoesFirst() {
        Trial.sentence("A size below 0 goes before TOO MUCH");
        long[] tooMany = {41, FAR, MOST};
        for (long size : tooMany) {
            Trial.failure("&a=%m,n;~a;0", -1, size, Trial.BELOW_0, 4);
            Trial.failure("&a=%m,n;~a;0", size, -1, Trial.BELOW_0, 4);
            Trial.failure("&a=%m,n;~a;0", LEAST, size, Trial.BELOW_0, 4);
            Trial.failure("&a=%m,n;~a;0", size, LEAST, Trial.BELOW_0, 4);
        }
        String[] ninths = {"@(0-1)", "%(0-1),1", "%1,(0-1)", "%41,(0-1)", "%(0-1),41"};
        for (String ninth : ninths) {
            pairsAnd(ninth).arguments(4, 1).fails('A', Trial.BELOW_0).noResult().arguments(3, 1).fails('A', Trial.BELOW_0);
        }
        pairsAnd("@41").arguments(4, 1).fails('A', Trial.TOO_MUCH);
    }
}
