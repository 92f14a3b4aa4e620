/** The section 'Terms', what a text is and where it is ill: each sentence on its boundary and a step beyond it. */
public final class TermsTextTest {
    private static final String BEGINNINGS = "0123456789abcdefghijklmnopqrstABCDEFGH(?&@%#^$~";

    public static void main(String[] args) {
        types();
        variables();
        functionNames();
        longestText();
        blanks();
        parameters();
        headSigns();
        digits();
        beginnings();
        operations();
        choicesAndBindings();
        newArrays();
        readings();
        updates();
        signsBeforeVariables();
        partsOfACall();
        deepest();
        everyPartIsOneDeeper();
        firstPlace();
        endsTooEarly();
        Trial.end();
    }

    private static void types() {
        Trial.sentence("TYPES are 0 NUMBER", "and 1 ROW, 2 TABLE");
        new Trial().illAt("A(a!/)0=1").good("A(a0)0=a", 1).good("B(a1)1=a", 2).good("C(a2)2=a", 3).illAt("D(a!3)0=1");
        new Trial().illAt("A()!/=1").good("A()0=1", 1).good("B()1=@1", 2).good("C()2=%1,1", 3).illAt("D()!3=1");
        Trial.allIll("A(a!)0=1", "A(a0!0)0=1", "A()!=1", "A()0!0=1");
    }

    private static void variables() {
        Trial.sentence("VARIABLES are a .. t");
        for (char v = 'a'; v <= 't'; v++) {
            new Trial().good("A(" + v + "0)0=" + v, 1).arguments(v).givesNumber('A', v);
            new Trial().good("A()0=&" + v + "=7;" + v, 1).givesNumber('A', 7);
        }
        String[] forms = {"A(*0)0=1", "A()0=*", "A()0=*[1]", "A()0=*{1,1}", "A()0=&*=1;1", "A()0=#*", "A()0=^*", "A()0=$*",
            "A()0=~*;1"};
        for (String form : forms) {
            new Trial().ill(form.replace('*', '`'), form.indexOf('*')).ill(form.replace('*', 'u'), form.indexOf('*'));
            new Trial().notIll(form.replace('*', 'a'));
            new Trial().notIll(form.replace('*', 't'));
        }
    }

    private static void functionNames() {
        Trial.sentence("FUNCTIONS A .. H");
        for (char name = 'A'; name <= 'H'; name++) {
            new Trial().good(name + "()0=3", 1).givesNumber(name, 3);
            new Trial().notIll("A()0=" + name + "()");
        }
        Trial.allIll("!@()0=1", "!I()0=1", "!a()0=1", "!0()0=1", "!()0=1", "A()0=!I()");
    }

    private static void longestText() {
        Trial.sentence("at most 150 characters");
        for (int length = 148; length <= 150; length++) {
            new Trial().good(textOf(length), 1).gives('A', 0);
        }
        Trial t = new Trial().type(textOf(151).substring(0, 150));
        Trial.due("type of the character behind 150", t.x.type(')'), false);
        t.ill("", 150);
        t.type(textOf(150));
        Trial.due("type of what can't stand behind 150", t.x.type('!'), false);
        t.good("", 1);
    }

    /** A good text of just so many characters, none of them a blank. */
    private static String textOf(int length) {
        return "A()0=" + sumOf(length - 5);
    }

    private static String sumOf(int length) {
        if (length <= 4) {
            return "9".repeat(length);
        }
        int left = (length - 3) / 2;
        return "(" + sumOf(left) + "+" + sumOf(length - 3 - left) + ")";
    }

    private static void blanks() {
        Trial.sentence("blanks, 32, are left out, places are counted without them");
        new Trial().good(" A ( n 0 ) 0 = ( 1 2 + n ) ", 1).arguments(3).givesNumber('A', 15);
        new Trial().good(" ".repeat(144) + "A()0=7", 1).givesNumber('A', 7);
        new Trial().good("A()0=7" + " ".repeat(144), 1).givesNumber('A', 7);
        Trial.allIll(" !", "   !", " !x", "A  (  )!  3", "A ( ) 0 =   !", "A()0=1 2 3 4 !5");
        new Trial().wrongAt(" A ( ) 0 = ( 1 + !n )").wrongAt("  A(a 1) 0=!  @ 1");
        new Trial().good("A()0=1", 1).wrongAt("  !A()0=1");
        new Trial().ill(" ".repeat(150), 0);
        new Trial().ill(" ".repeat(149) + "A", 1);
    }

    private static void parameters() {
        Trial.sentence("none to four PARAMETERS with , between them, each a variable and its type");
        new Trial().good("A()0=1", 1).good("B(a0)0=a", 2).good("C(a0,b0)0=b", 3).good("D(a0,b0,c0)0=c", 4)
                .good("E(a0,b0,c0,d0)0=d", 5).illAt("F(a0,b0,c0,d0!,e0)0=1").illAt("F(a0,b0,c0,d0!e0)0=1");
        Trial.allIll("A(!,a0)0=1", "A(a0,!)0=1", "A(a0,!,b0)0=1", "A(a0!b0)0=1", "A(a0!;b0)0=1", "A(!0)0=1",
                "A(!0a)0=1", "A(a!a0)0=1", "A(!A0)0=1");
    }

    private static void headSigns() {
        Trial.sentence("its name, ( , none to four PARAMETERS with , between them, each a variable and its type, ) , "
                + "the result's type, = , an EXPRESSION", "the signs");
        Trial.allIll("A!)0=1", "A!0=1", "A!A()0=1", "A(!(0=1", "A(a0!=1", "A()!)0=1", "A()0!1", "A()0!(1)",
                "A()0=!=1", "A()0=!)", "A()0=1!;", "A()0=1!=");
    }

    private static void digits() {
        Trial.sentence("one to four digits, a number");
        Trial.allIll("A()0=!", "A()0=!/", "A()0=!:", "A()0=!-1", "A()0=9999!9", "A()0=(0000!0+1)");
        String[] numbers = {"0", "9", "10", "99", "007", "999", "0000", "0070", "9999"};
        for (String number : numbers) {
            Trial.number(number, 0, 0, Long.parseLong(number));
        }
        Trial.number("(9999*9999)", 0, 0, 99980001);
        Trial.number("?0000(1|2)", 0, 0, 2);
    }

    private static void beginnings() {
        Trial.sentence("An expression is one of these");
        for (char c = '!'; c <= '~'; c++) {
            Trial t = new Trial().type("A()0=" + c);
            String thrown = t.thrownByDefine();
            boolean stands = !thrown.equals(Trial.ILL) || t.x.place() > 5;
            Trial.due("an expression can begin with " + c + ", which", stands, BEGINNINGS.indexOf(c) >= 0);
        }
    }

    private static void operations() {
        Trial.sentence("(e+e) and so with - * / < =");
        for (char c = '!'; c <= '~'; c++) {
            if ("+-*/<=".indexOf(c) >= 0) {
                new Trial().good("A()0=(1" + c + "2)", 1);
            } else if (c < '0' || c > '9') {
                new Trial().ill("A()0=(1" + c + "2)", 7);
            }
        }
        Trial.allIll("A()0=(!)", "A()0=(1!)", "A()0=(!+1)", "A()0=(1+!)", "A()0=(1+2!+3)", "A()0=(1+2!]", "A()0=1!+2",
                "A()0=(1+!+2)", "A()0=(1=!=2)", "A()0=(1<!=2)", "A()0=(1!(2)");
    }

    private static void choicesAndBindings() {
        Trial.sentence("?e(e|e); &v=e;e");
        Trial.allIll("A()0=?(1!|2)", "A()0=?1!|2)", "A()0=?1(!|2)", "A()0=?1(2!)", "A()0=?1(2!,3)", "A()0=?1(2|!)",
                "A()0=?1(2|3!|4)", "A()0=?1(2|3!]", "A()0=?!)");
        Trial.allIll("A()0=&!1=2;3", "A()0=&!A=2;3", "A()0=&!=2;3", "A()0=&a!;3", "A()0=&a!1;3", "A()0=&a=!;3",
                "A()0=&a=2!,3", "A()0=&a=2;!", "A()0=&a=2;3!;4", "A()0=&a!a=2;3");
        new Trial().notIll("A()0=?1(2|3)").notIll("B()0=&a=2;3").notIll("C()0=??1(2|3)(4|5)").notIll("D()0=(&a=1;a=&a=2;a)");
    }

    private static void newArrays() {
        Trial.sentence("@e ; %e,e");
        Trial.allIll("A()1=@!", "A()1=@!)", "A()1=@1!,1", "A()2=%!,1", "A()2=%1!", "A()2=%1!;2", "A()2=%1,!",
                "A()2=%1,2!,3");
        new Trial().good("A()1=@1", 1).good("B()2=%1,2", 2).notIll("C()2=%%1,2,3");
    }

    private static void readings() {
        Trial.sentence("v[e] ; v[e,e]");
        Trial.allIll("A()0=a[!]", "A()0=a[!,1]", "A()0=a[1,!]", "A()0=a[1,2!,3]", "A()0=a[1!}", "A()0=a[1!)",
                "A()0=a[1!;2]", "A()0=a!]", "A()0=a!(1)", "A()0=a[1]![1]", "A()0=1![1]", "A()0=A()![1]");
        new Trial().good("A(a1)0=&n=a[1];~a;n", 1).good("B(a2)0=&n=a[1,2];~a;n", 2);
    }

    private static void updates() {
        Trial.sentence("v{e,e} ; v{e,e,e}");
        Trial.allIll("A()0=a{!}", "A()0=a{1!}", "A()0=a{!,1}", "A()0=a{1,!}", "A()0=a{1,2,!}", "A()0=a{1,2,3!,4}",
                "A()0=a{1,2!]", "A()0=a{1!;2}", "A()0=a!}", "A()0=a{1,2}!{1,2}", "A()0=1!{1,2}");
        new Trial().good("A(a1)1=a{1,2}", 1).good("B(a2)2=a{1,2,3}", 2);
    }

    private static void signsBeforeVariables() {
        Trial.sentence("#v ; ^v ; $v ; ~v;e");
        String signs = "#^$";
        for (int i = 0; i < signs.length(); i++) {
            String begun = "A()0=" + signs.charAt(i);
            Trial.allIll(begun + "!", begun + "!1", begun + "!A()", begun + "!#a", begun + "!(a+b)", begun + "a![1]",
                    begun + "a!;1", begun + "a!{1,1}");
            new Trial().notIll(begun + "a");
        }
        Trial.allIll("A()0=~!", "A()0=~!1;1", "A()0=~!;1", "A()0=~a!1", "A()0=~a!,1", "A()0=~a!=1", "A()0=~a;!",
                "A()0=~a;1!;1");
        new Trial().notIll("A()0=~a;1");
    }

    private static void partsOfACall() {
        Trial.sentence("a function's name, ( , none to four e with , between them, )");
        new Trial().notIll("A()0=B()").notIll("A()0=B(1)").notIll("A()0=B(1,2)").notIll("A()0=B(1,2,3)")
                .notIll("A()0=B(1,2,3,4)").illAt("A()0=B(1,2,3,4!,5)");
        Trial.allIll("A()0=B!", "A()0=B!a", "A()0=B!)", "A()0=B(!,)", "A()0=B(!,1)", "A()0=B(1,!)", "A()0=B(1,!,2)",
                "A()0=B(1!;2)", "A()0=B(1!]", "A()0=B()!()", "A()0=B![1]");
    }

    private static void deepest() {
        Trial.sentence("Expressions lie at most 8 deep in one another (the function's is 1)");
        new Trial().good("A(n0)0=(1+(1+(1+(1+(1+(1+(1+n)))))))", 1).givesNumber('A', 7);
        Trial.allIll("A(n0)0=(1+(1+(1+(1+(1+(1+(1+(!n+1))))))))", "A(n0)0=((((((((!n", "A(n0)0=((((((((!(((");
        new Trial().good("A()0=&a=1;&b=1;&c=1;&d=1;&e=1;&f=1;&g=1;g", 1)
                .illAt("B()0=&a=1;&b=1;&c=1;&d=1;&e=1;&f=1;&g=1;&h=!1;h");
        new Trial().good("A()0=A()", 1).good("B(n0)0=B(B(B(B(B(B(B(A())))))))", 2)
                .illAt("C(n0)0=C(C(C(C(C(C(C(C(!1))))))))");
        Trial.allIll("A(a1)1=@@@@@@@@!1", "A(a1)1=@@@@@@@a[!0]", "A(a1)1=@@@@@@@~a;!1");
        new Trial().wrongAt("A(a1)1=@@@@@@!@#a");
        // Behind the deepest part the next begins where the first did.
        new Trial().good("A()0=(((((((1+1)+1)+1)+1)+1)+1)+1)", 1).givesNumber('A', 8);
        new Trial().good("A()0=((((((1+1)+1)+1)+1)+1)+(1+(1+(1+(1+(1+(1+1)))))))", 1).givesNumber('A', 13);
    }

    /** Each form that has parts, with * where its parts go. */
    private static void everyPartIsOneDeeper() {
        Trial.sentence("also one with which a ninth depth begins");
        String[] forms = {"(*+*)", "?*(*|*)", "&a=*;*", "@*", "%*,*", "a[*]", "a[*,*]", "a{*,*}", "a{*,*,*}", "~a;*",
            "A(*)", "A(*,*)", "A(*,*,*,*)"};
        for (String form : forms) {
            int first = form.indexOf('*');
            new Trial().ill("A()0=" + "(".repeat(7) + form.replace('*', '1'), 5 + 7 + first);
            int whole = form.length();
            // At depth 7 its parts are the last that can stand; the text ends too early, and is ill there alone.
            new Trial().ill("A()0=" + "(".repeat(6) + form.replace('*', '1'), 5 + 6 + whole);
            for (int part = first; part >= 0; part = form.indexOf('*', part + 1)) {
                String deeper = form.substring(0, part) + "(1+1)" + form.substring(part + 1);
                new Trial().ill("A()0=" + "(".repeat(6) + deeper.replace('*', '1'), 5 + 6 + part + 1);
            }
        }
    }

    private static void firstPlace() {
        Trial.sentence("A text is ILL at the first place where a character can't stand");
        Trial.allIll("!xx", "A!xx", "A()0=(1!x+x)", "A()0=1!x", "A()0=(1+2)!)", "A()0=(!u+");
        new Trial().ill("!", 0).ill("A()0=1!", 6).ill("A()0=!1", 5).ill("~", 0).ill("A~", 1);
    }

    private static void endsTooEarly() {
        Trial.sentence("at its length if it ends too early");
        new Trial().ill("", 0);
        // No text here is whole before its last character.
        String[] texts = {"A(a0,b1,c2,t0)0=1", "A()0=(1+n)", "A()0=?1(2|3)", "A()0=&a=1;2", "A()2=%1,@2", "A()0=(a[1,2]-1)",
            "A()0=(a{1,2,3}+a)", "A()0=~a;#a", "A()0=A(1,2,^b,$c)"};
        for (String text : texts) {
            for (int end = 0; end < text.length(); end++) {
                new Trial().ill(text.substring(0, end), end);
            }
            new Trial().notIll(text);
        }
        new Trial().ill("A()0=" + "?1(".repeat(7), 26);
    }
}
