/**
 * Whole runs of calls, worked out by hand. Their texts are those that ../shared/tests/SoleArraysRuns.java seems to mean:
 * there the characters ')' and ',' are missing, so that nothing in it is ever defined.
 */
public final class WholeRunsTest {
    public static void main(String[] args) {
        aRowByItsSize();
        aTableByItsSizes();
        usedTwiceOrByNobody();
        atTheLimits();
        Trial.end();
    }

    private static void aRowByItsSize() {
        Trial.sentence("updates are made in place");
        Trial t = new Trial().ill("", 0).fails('A', Trial.NOT_RUN).good("A(n0)1=&r=@n;&q=r{0,(n*n)};q{(n-1),7}", 1);
        t.arguments(3).givesRow('A', 9, 0, 7).counted(14, 1, 1, 2);
        t.arguments(1).givesRow('A', 7).counted(14, 1, 1, 2);
        t.arguments(0).fails('A', Trial.OUTSIDE).noResult().counted(9, 1, 1, 0);
        t.arguments(-2).fails('A', Trial.BELOW_0).noResult().counted(3, 0, 0, 0);
        t.arguments(41).fails('A', Trial.TOO_MUCH).noResult().counted(3, 0, 0, 0);
        t.arguments(40).gives('A', 1).counted(14, 1, 1, 2);
        t.good("B(a1,k0)1=?(k<#a)(B(a{k,(a[k]+k)},(k+1))|a)", 2).fails('B', Trial.NOT_RUN);
        Trial.due("size(0) of the result that stays", t.x.size(0), 40);
        Trial.due("cell(0, 0) of the result that stays", t.x.cell(0, 0), 1600);
        Trial.due("cell(39, 0) of the result that stays", t.x.cell(39, 0), 7);
        t.good("C(n0)1=B(A(n),0)", 3).arguments(3).givesRow('C', 9, 1, 9);
    }

    private static void aTableByItsSizes() {
        Trial.sentence("$ makes another array with the same numbers");
        Trial t = new Trial().illAt("A(!x0,y0)2=%x,y").good("A(m0,n0)2=&t=%m,n;&s=$t;~t;s{1,0,(#s+^s)}", 1);
        t.arguments(2, 3).givesTable('A', 2, 3, 0, 0, 0, 5, 0, 0).counted(13, 2, 2, 1);
        t.arguments(1, 3).fails('A', Trial.OUTSIDE).noResult().counted(13, 2, 2, 0);
        t.arguments(5, 9).fails('A', Trial.TOO_MUCH).noResult().counted(4, 0, 0, 0);
        t.arguments(2, -1).fails('A', Trial.BELOW_0).noResult().counted(4, 0, 0, 0);
        t.good("B(m2)0=&k=(m[0,0]+m[1,1]);~m;k", 2).good("C()0=B(A(2,2))", 3).givesNumber('C', 0);
        t.good("D()0=B(&t=A(2,2);t{1,1,8})", 4).givesNumber('D', 8);
    }

    private static void usedTwiceOrByNobody() {
        Trial.sentence("what is used twice, or by nobody, is found before anything runs");
        Trial t = new Trial().wrongAt("A(a1)1=&b=a;!a").wrongAt("A(!a1)0=1").wrongAt("A(!a1)0=(#a+a[0])")
                .wrongAt("A(a1,!a0)1=a").wrongAt("A(n0)1=!n").wrongAt("A(n0)0=!@n").wrongAt("A(n0)0=&!n=1;n")
                .wrongAt("A(a1)1=!?1(a|@3)");
        t.good("A(a1)1=?1(a|a)", 1).good("B(a1)0=?a[0](~a;1|~a;2)", 2).wrongAt("C(a2)0=!a[0]").wrongAt("C(a1)0=^!a");
        t.fails('A', Trial.NOT_RUN).fails('B', Trial.NOT_RUN).noResult().counted(0, 0, 0, 0);
        t.good("C(n0)0=B(&a=@1;a{0,n})", 3).givesNumber('C', 2).arguments(5).givesNumber('C', 1);
    }

    private static void atTheLimits() {
        Trial.sentence("UnsupportedOperationException if it is TOO MUCH");
        Trial t = new Trial().illAt("A()0=&a=@40;&b=@1;&c=@1;&d=@1;&e=@1;~a;~b;~c;!~d;~e;1");
        t.good("A()0=&a=@40;&b=@1;&c=$b;~a;~b;~c;1", 1).givesNumber('A', 1).counted(12, 3, 3, 0);
        t.good("B(n0)0=(B((n+1))+1)", 2).fails('B', Trial.TOO_MUCH).noResult().counted(8 * 5, 0, 0, 0);
        t.good("C(n0)1=?n(&a=C((n-1));&b=@1;~a;b|@0)", 3).arguments(7).givesRow('C', 0).counted(7 * 12 + 4, 8, 2, 0);
        t.arguments(8).fails('C', Trial.TOO_MUCH).noResult();
    }
}
