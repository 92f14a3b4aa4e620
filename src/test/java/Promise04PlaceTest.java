/** Promise 4: place tells where the text of the latest define was ill or wrong. */
public final class Promise04PlaceTest {
    public static void main(String[] args) {
        ofTheLatestDefine();
        illHeads();
        illExpressions();
        illAtAnyEnd();
        illDepths();
        everyPartIsOneDeeper();
        wrongHeads();
        wrongParts();
        wrongVariables();
        wrongChoices();
        wrongBindings();
        wrongCalls();
        Trial.end();
    }

    private static void ofTheLatestDefine() {
        Trial t = new Trial();
        t.wrong("A()0=n", 5).type("A()0=1");
        Trial.due("place while typing", t.x.place(), 5);
        t.good("", 1);
        Trial.due("place after a good define", t.x.place(), SoleArrays.NONE);
        t.ill("A()0=1+", 6);
        t.givesNumber('A', 1);
        t.x.clear();
        t.fails('A', Trial.NOT_RUN);
        Trial.due("place after run and clear", t.x.place(), 6);
        new Trial().wrong(" A ( ) 0 = ( 1 + n )", 8).ill("A( )0=  x", 5);
    }

    private static void illHeads() {
        new Trial().ill("I()0=1", 0).ill("a()0=1", 0).ill("A", 1).ill("A)", 1).ill("A(", 2).ill("A(0", 2)
                .ill("A(u0)0=1", 2).ill("A(a", 3).ill("A(a)0=1", 3).ill("A(a3)0=1", 3).ill("A(a0b0)0=1", 4)
                .ill("A(,a0)0=1", 2).ill("A(a0,)0=1", 5).ill("A(a0,b0,c0,d0,e0)0=1", 13).ill("A()3=1", 3)
                .ill("A()=1", 3).ill("A()01", 4).ill("A()0==1", 5).ill("A()0=", 5).ill("@", 0);
    }

    private static void illExpressions() {
        new Trial().ill("A()0=u", 5).ill("A()0=I()", 5).ill("A()0=-1", 5).ill("A()0=12345", 9)
                .ill("A()0=1a", 6).ill("A()0=1)", 6).ill("A()0=a(", 6).ill("A()0=a]", 6).ill("A()0=()", 6)
                .ill("A()0=(1)", 7).ill("A()0=(1>2)", 7).ill("A()0=(1+2+3)", 9).ill("A()0=?1|2", 7)
                .ill("A()0=?1(2,3)", 9).ill("A()0=?1(2|3|4)", 11).ill("A()0=&1=2;3", 6).ill("A()0=&A=2;3", 6)
                .ill("A()0=&a;3", 7).ill("A()0=&a=2,3", 9);
        new Trial().ill("A()1=@)", 6).ill("A()2=%1;2", 7)
                .ill("A()0=a[]", 7).ill("A()0=a[1,2,3]", 10).ill("A()0=a[1}", 8).ill("A()0=a{1}", 8)
                .ill("A()0=a{1,2,3,4}", 12).ill("A()0=a{1,2]", 10).ill("A()0=#1", 6).ill("A()0=^^a", 6)
                .ill("A()0=$A()", 6).ill("A()0=#a[1]", 7).ill("A()0=~1;1", 6).ill("A()0=~a1", 7).ill("A()0=~a,1", 7)
                .ill("A()0=A", 6).ill("A()0=Aa", 6).ill("A()0=A(,)", 7).ill("A()0=A(1,)", 9).ill("A()0=A(1;2)", 8)
                .ill("A()0=A(1,2,3,4,5)", 14).ill("A()0=A()()", 8).ill("A()0=>", 5).ill("A(a0)0=(a1)", 9)
                .ill("A(a0)0=(1a)", 9).ill("A(a0)0=(1(1+1))", 9);
    }

    private static void illAtAnyEnd() {
        // No text here is whole before its last character.
        String[] texts = {"A(a0,b1,c2,t0)0=1", "A()0=(1+n)", "A()0=?1(2|3)", "A()0=&a=1;2", "A()2=%1,@2", "A()0=(a[1,2]-1)",
            "A()0=(a{1,2,3}+a)", "A()0=~a;#a", "A()0=A(1,2,^b,$c)"};
        for (String text : texts) {
            for (int end = 0; end < text.length(); end++) {
                new Trial().ill(text.substring(0, end), end);
            }
        }
    }

    private static void illDepths() {
        String eight = "A(n0)0=(1+(1+(1+(1+(1+(1+(1+n)))))))";
        new Trial().good(eight, 1);
        new Trial().ill("A(n0)0=(1+(1+(1+(1+(1+(1+(1+(n+1))))))))", 29);
        new Trial().ill("A(n0)0=((((((((n", 15).ill("A(n0)0=((((((((", 15).ill("A(n0)0=(((((((((((", 15);
        new Trial().good("A()0=&a=1;&b=1;&c=1;&d=1;&e=1;&f=1;&g=1;g", 1);
        new Trial().ill("A()0=&a=1;&b=1;&c=1;&d=1;&e=1;&f=1;&g=1;&h=1;h", 43);
        new Trial().good("A()0=A()", 1).good("B(n0)0=B(B(B(B(B(B(B(A())))))))", 2)
                .ill("C(n0)0=C(C(C(C(C(C(C(C(1))))))))", 23);
        new Trial().ill("A(a1)1=@@@@@@@@1", 15).ill("A(a1)1=@@@@@@@a[0]", 16).ill("A(a1)1=@@@@@@@~a;1", 17)
                .wrong("A(a1)1=@@@@@@@#a", 13);
    }

    /** Each form that has parts, with * where its parts go. */
    private static void everyPartIsOneDeeper() {
        String[] forms = {"(*+*)", "?*(*|*)", "&a=*;*", "@*", "%*,*", "a[*]", "a[*,*]", "a{*,*}", "a{*,*,*}", "~a;*",
            "A(*)", "A(*,*,*,*)"};
        for (String form : forms) {
            int first = form.indexOf('*');
            new Trial().ill("A()0=" + "(".repeat(7) + form.replace('*', '1'), 5 + 7 + first);
            int whole = form.length();
            // At depth 7 its parts are the last that can stand; the text ends too early, and is ill there alone.
            new Trial().ill("A()0=" + "(".repeat(6) + form.replace('*', '1'), 5 + 6 + whole);
            for (int part = first; part >= 0; part = form.indexOf('*', part + 1)) {
                String deeper = form.substring(0, part) + "(1+1)" + form.substring(part + 1);
                new Trial().ill("A()0=" + "(".repeat(6) + deeper.replace('*', '1'), 5 + 6 + part + 1);
            }
        }
    }

    private static void wrongHeads() {
        Trial t = new Trial().good("A()0=1", 1);
        t.wrong("A(a0,a0)0=n", 0).wrong("B(a0,b0,a1,b0)0=n", 8).wrong("B(a1,b0,c0,b2)0=n", 11).wrong("B(a0)0=n", 7);
        t.wrong("B(a1,b1)1=3", 10).wrong("B(n0,a1,b1)0=3", 5).wrong("B(a1,b2)1=a", 5).wrong("B(a1)0=#a", 2)
                .wrong("B(a1)1=$a", 2).wrong("B(a1,b1)2=~b;a", 10).wrong("B(n0)1=n", 7).wrong("B(n0)0=@n", 7);
    }

    private static void wrongParts() {
        Trial t = new Trial();
        t.wrong("A()0=(@1+n)", 6).wrong("A()0=(1+@n)", 9).wrong("A()0=(1+@2)", 8).wrong("A()0=(n+@2)", 6)
                .wrong("A()1=@@1", 6).wrong("A()2=%@1,n", 6).wrong("A()2=%1,@1", 8).wrong("A()2=%1,n", 8)
                .wrong("A(a1)0=a[@1]", 9).wrong("A()0=a[n]", 7).wrong("A()0=a[1]", 5).wrong("A(a2)0=a[1,@n]", 12)
                .wrong("A(a1)1=a{@1,n}", 9).wrong("A(a1)1=a{1,@1}", 11).wrong("A(a2)2=a{1,2,%1,1}", 13)
                .wrong("A()0=?@1(n|n)", 6).wrong("A(a1)0=(a+1)", 8).wrong("A(a1)1=(1+(2+a))", 13)
                .wrong("A()0=(1+?1(@1|@2))", 8).wrong("A()0=(1+&a=1;@a)", 8);
    }

    private static void wrongVariables() {
        Trial t = new Trial();
        t.wrong("A(a1)0=a[~a;1]", 7).wrong("A(a1)1=a{0,~a;1}", 7).wrong("A(a2)0=a[0]", 7).wrong("A(a1)0=a[0,0]", 7)
                .wrong("A(a0)0=a[0]", 7).wrong("A(a2)2=a{0,0}", 7).wrong("A(a1)1=a{0,0,0}", 7).wrong("A(a0)0=a{0,0}", 7)
                .wrong("A()0=#a", 6).wrong("A(a0)0=#a", 8).wrong("A(a1)0=^a", 8).wrong("A(a0)0=^a", 8).wrong("A(a0)0=$a", 8)
                .wrong("A(a0)0=~a;n", 8).wrong("A(a1)0=~a;#a", 11).wrong("A(a2)0=~a;^a", 11).wrong("A(a1)1=~a;$a", 11)
                .wrong("A(a1)0=~a;~a;1", 11).wrong("A(a1)1=~a;a", 10).wrong("A(a1)1=&b=a;a", 12)
                .wrong("A(a1)1=&b=a{0,1};~b;a", 20).wrong("A(a1)1=~a;a{0,0}", 10).wrong("A(a1)0=~a;a[0]", 10)
                .wrong("A(a2)0=~a;a[0]", 10);
        t.good("A(a1)0=(#a+~a;1)", 1).wrong("B(a1)0=(~a;1+#a)", 14);
    }

    private static void wrongChoices() {
        Trial t = new Trial();
        t.wrong("A(a1)0=?1(~a;1|2)", 7).wrong("A(a1)0=?1(2|~a;1)", 7).wrong("A(a1,b1)1=?1(a|b)", 10)
                .wrong("A()0=?1(2|@3)", 5).wrong("A()0=?1(@3|2)", 5).wrong("A()0=?1(@3|%2,n)", 14)
                .wrong("A()0=(1+?1(@3|2))", 8).wrong("A(a1)0=?~a;1(~a;1|n)", 14).wrong("A(a1)1=?1(a|@3)", 7)
                .wrong("A(a1)1=?1(a|(1+a))", 15).wrong("A(a1)0=?1(1|2)", 2).wrong("A(a1)0=(?1(~a;1|~a;2)+#a)", 23);
        t.good("A(a1)1=?1(a|a)", 1).good("B(a1)0=?#a(~a;1|~a;2)", 2);
    }

    private static void wrongBindings() {
        Trial t = new Trial();
        t.wrong("A(n0)0=&n=m;1", 8).wrong("A()0=&a=1;&a=2;a", 11).wrong("A()0=&a=a;1", 8).wrong("A()0=&a=@1;1", 6)
                .wrong("A()0=(&a=1;a+a)", 13).wrong("A()0=&a=@1;&b=%1,1;~a;1", 12).wrong("A()1=&a=@1;$a", 6)
                .wrong("A(a1)1=~a;&a=@1;a", 11).wrong("A()0=&a=@1;(1+@n)", 15).wrong("A()0=&a=@1;(1+@2)", 14)
                .wrong("A()0=&a=1;@a", 5).wrong("A()0=&a=@1;@2", 6).wrong("A()0=?1(&a=@1;1|@2)", 9);
    }

    private static void wrongCalls() {
        Trial t = new Trial().good("A(n0,a1,t2)1=~t;a{n,0}", 1);
        t.wrong("B()0=&a=C();n", 8).wrong("B()0=C(n)", 5).wrong("B()1=A()", 5).wrong("B()1=A(n,n)", 5).wrong("B()1=A(n,n,n,n)", 5)
                .wrong("B()1=A(@1,n,n)", 7).wrong("B()1=A(1,%1,1,n)", 9).wrong("B()1=A(1,@1,@n)", 13)
                .wrong("B()1=A(1,@1,@1)", 12).wrong("B()0=A(1,@1,%1,1)", 5).wrong("B(a1)1=A(1,a,?#a(%1,1|%2,2))", 15)
                .wrong("B(a1)1=A(#a,$a,%1,1)", 2).wrong("B(n0)0=B()", 7).wrong("B(n0)0=B(@n)", 9).wrong("B(n0)1=(1+B(n))", 10);
        t.good("B(a1)1=A(#a,a,%1,1)", 2).good("C(n0)0=C(n)", 3).wrong("D(n0)0=E(n)", 7);
    }
}
