/** The section 'Terms', where a function is wrong: each sentence on its boundary and a step beyond it. */
public final class TermsWrongTest {
    public static void main(String[] args) {
        nameDefinedAlready();
        parameterTwice();
        expressionBeforeResult();
        resultBeforeOwned();
        parameterOwnedStill();
        partsFromLeftToRight();
        partsBeforeItself();
        boundInTheSecond();
        ownedUntilUsedUp();
        unboundVariables();
        lostVariables();
        typesOfVariables();
        digits();
        bareVariables();
        operations();
        choiceOfANumber();
        choiceFromWhereTheFirstLeftOff();
        choiceOfOneType();
        choiceThatLeavesTheSame();
        bindingOfWhatIsBound();
        bindingHasTheSecondsType();
        bindingOwnedBehindIt();
        sizesAreNumbers();
        readingsAndUpdates();
        updateUsesUp();
        howMany();
        copyStaysOwned();
        givingUp();
        callOfNothing();
        numberOfParts();
        typesOfParts();
        Trial.end();
    }

    private static void nameDefinedAlready() {
        Trial.sentence("its name, if it is defined already");
        Trial t = new Trial().good("A()0=1", 1).wrongAt("!A()0=1").wrongAt("!A(a0,a0)0=n").wrongAt("!A()1=1")
                .wrongAt("!A(a1)0=1");
        t.good("B()0=1", 2).wrongAt("!B()0=1").wrongAt("!A()0=B()").good("H()0=1", 3).wrongAt("!H()0=1");
        t.x.clear();
        t.good("A()0=1", 1).good("H()0=1", 2).wrongAt("!A()0=1");
        // What was wrong has not been defined.
        new Trial().wrongAt("A()0=!n").good("A()0=1", 1);
        new Trial().good("A()0=1", 1).illAt("A()0=!");
    }

    private static void parameterTwice() {
        Trial.sentence("a parameter's variable that an earlier one has");
        Trial.allWrong("A(a0,!a0)0=1", "A(a0,!a1)0=n", "A(a0,b0,!a0)0=1", "A(a0,b0,c0,!c0)0=1", "A(a0,b0,c0,!a0)0=1",
                "A(a0,b0,!b0,a0)0=n", "A(a0,!a0,b0,b0)0=n", "A(t1,!t1)0=@1");
        Trial.allGood("A(a0,b0,c0,d0)0=1", "A(s0,t0)0=1");
    }

    private static void expressionBeforeResult() {
        Trial.sentence("then its expression is LOOKED AT; its beginning, if it isn't of the result's type");
        Trial.allWrong("A()1=(1+!n)", "A()1=!(1+1)", "A()0=!@1", "A()0=!%1,1", "A()1=!1", "A()1=!%1,1", "A()2=!1",
                "A()2=!@1", "A(n0)1=!n", "A()0=!&a=1;@a", "A()0=!?1(@1|@2)", "A(n0)1=!&a=A(n);~a;1");
        Trial.allGood("A()0=1", "A()1=@1", "A()2=%1,1", "A(n0)1=A(n)");
    }

    private static void resultBeforeOwned() {
        Trial.sentence("its beginning, if it isn't of the result's type; the variable of the first parameter");
        Trial.allWrong("A(a1)1=!1", "A(a1,b2)2=!a", "A(a1)0=!$a", "A(!a1)0=1", "A(!a1)1=$a", "A(a1,!b2)1=a");
    }

    private static void parameterOwnedStill() {
        Trial.sentence("the variable of the first parameter that is an array and is owned still");
        Trial.allWrong("A(!a1)0=1", "A(!a2)0=1", "A(!a1,b1)0=1", "A(n0,!a1,b2)0=n", "A(a1,!b1)0=~a;1",
                "A(!a1,b1)0=~b;1", "A(a1,b1,!c1,d1)0=~a;~b;1", "A(a0,b0,c0,!d2)0=1", "A(!a1)0=#a", "A(!a2)0=^a",
                "A(!a1)0=a[0]", "A(!a1)1=@1");
        Trial.allGood("A(a1)0=~a;1", "A(a1,b1,c2,d2)0=~d;~c;~b;~a;1", "A(a0,b0,c0,d0)0=1", "A(a1)1=a",
                "A(a2)2=a{0,0,0}");
    }

    private static void partsFromLeftToRight() {
        Trial.sentence("otherwise it is WRONG at the part's beginning, before the next part is looked at");
        Trial.allWrong("A()0=(!@1+n)", "A()0=(1+@!n)", "A()0=(1+!@2)", "A()0=(!n+@2)", "A()2=%!@1,n", "A()2=%1,!@1",
                "A()2=%1,!n", "A()2=%!m,n", "A(a2)0=a[!@1,n]", "A(a2)0=a[1,!@1]", "A(a1)1=a{!@1,n}",
                "A(a1)1=a{1,!@1}", "A(a2)2=a{!%1,1,n,n}", "A(a2)2=a{1,!@1,n}", "A(a2)2=a{1,2,!%1,1}",
                "A()0=?!@1(n|n)", "A()0=?1(!n|m)", "A()0=?1(1|!m)", "A()0=&a=!n;m", "A()0=(1+!?1(@1|@2))",
                "A()0=(1+!&a=1;@a)", "A(a1)0=(1+!~a;@1)", "A(a1)0=(1+!$a)", "A(a1)0=(1+!a{0,1})");
    }

    private static void partsBeforeItself() {
        Trial.sentence("To look at an expression is to look at its parts from left to right, and then at itself");
        Trial.allWrong("A()0=a[!n]", "A()0=!a[1]", "A()0=a{!n,1}", "A()0=a{1,!n}", "A()0=!a{1,1}", "A()0=a[1,!n]",
                "A()0=!a[1,1]", "A()0=a{1,1,!n}", "A()0=?1(2|@!n)", "A()0=!?1(2|@1)");
    }

    private static void boundInTheSecond() {
        Trial.sentence("A variable is BOUND as a parameter in the whole function, by & in its second e");
        Trial.allWrong("A()0=&a=!a;1", "A()0=(&a=1;a+!a)", "A()0=(!a+&a=1;a)", "A()0=?1(&a=1;a|!a)",
                "A()0=&a=&b=1;b;!b");
        Trial.allGood("A(n0)0=(n+&a=n;(n+a))", "A()0=(&a=1;a+&a=2;a)", "A()0=&a=&a=1;(a+1);(a+10)",
                "A()0=?1(&a=1;a|&a=2;a)", "A()0=&a=@1;(&b=a;~b;1+&b=2;b)");
    }

    private static void ownedUntilUsedUp() {
        Trial.sentence("An array's variable is OWNED from there on until it is USED UP");
        Trial.allWrong("A(a1)1=~a;!a", "A(a1)1=&b=a;!a", "A()1=&a=@1;&b=a;!a", "A(a1)0=(~a;1+#!a)",
                "A(a1,b1)1=&c=a;&d=c;~b;!c");
        Trial.allGood("A(a1)0=(#a+~a;1)", "A(a1)1=&b=a;&c=b;&d=c;d", "A(a1)1=a{a[0],a[1]}",
                "A()1=&a=@1;&b=@a[#a];~a;b");
    }

    private static void unboundVariables() {
        Trial.sentence("Where a v is looked at it is WRONG at v if it isn't bound there");
        Trial.allWrong("A()0=!a", "A()0=!a[0]", "A()0=!a[0,0]", "A()1=!a{0,0}", "A()2=!a{0,0,0}", "A()0=#!a",
                "A()0=^!a", "A()1=$!a", "A()0=~!a;1", "A(a0)0=!b", "A(b0)0=!a", "A(s0)0=!t", "A(t0)0=!s");
    }

    private static void lostVariables() {
        Trial.sentence("or it is an array's and not owned any more");
        Trial.allWrong("A(a1)1=~a;!a", "A(a1)0=~a;!a[0]", "A(a2)0=~a;!a[0,0]", "A(a1)1=~a;!a{0,0}",
                "A(a2)2=~a;!a{0,0,0}", "A(a1)0=~a;#!a", "A(a2)0=~a;#!a", "A(a2)0=~a;^!a", "A(a1)1=~a;$!a",
                "A(a2)2=~a;$!a", "A(a1)0=~a;~!a;1", "A(a2)0=~a;~!a;1", "A(a1)0=!a[~a;1]", "A(a1)1=!a{0,~a;1}",
                "A(a2)2=!a{~a;0,0,0}");
        // What was a table's is lost first, whatever would be wanted there.
        Trial.allWrong("A(a2)0=~a;!a[0]", "A(a1)0=~a;^!a");
    }

    private static void typesOfVariables() {
        Trial.sentence("or it isn't of a type that is wanted there");
        Trial.allWrong("A(a0)0=!a[0]", "A(a2)0=!a[0]", "A(a0)0=!a[0,0]", "A(a1)0=!a[0,0]", "A(a0)0=!a{0,0}",
                "A(a2)2=!a{0,0}", "A(a0)0=!a{0,0,0}", "A(a1)1=!a{0,0,0}", "A(a0)0=#!a", "A(a0)0=^!a", "A(a1)0=^!a",
                "A(a0)0=$!a", "A(a0)0=~!a;1", "A(a0)0=~!a;n");
        Trial.allGood("A(a1)0=&n=a[0];~a;n", "A(a2)0=&n=a[0,0];~a;n", "A(a1)1=a{0,0}", "A(a2)2=a{0,0,0}",
                "A(a1)0=(#a+~a;1)", "A(a2)0=(#a+~a;1)", "A(a2)0=(^a+~a;1)", "A(a1)1=&b=$a;~a;b", "A(a2)2=&b=$a;~a;b",
                "A(a1)0=~a;1", "A(a2)0=~a;1");
    }

    private static void digits() {
        Trial.sentence("digits: a number");
        Trial.allWrong("A()1=!1", "A()2=!1", "A(a1)1=A(!1)", "A(a2)2=A(!0)", "A()1=!?1(1|@1)");
        Trial.allGood("A()0=1", "A()0=0000", "A(n0)0=A(1)");
    }

    private static void bareVariables() {
        Trial.sentence("v: is of its type; an array's is used up");
        Trial.allGood("A(n0)0=(n+(n+n))", "A(a1)1=a", "A(a2)2=a");
        Trial.allWrong("A(a1)1=(!a+1)", "A(a2)0=(1+!a)", "A(a1)1=@!a", "A(a1)2=!a", "A(a2)1=!a", "A(a0)1=!a",
                "A(a1)1=&b=a;&c=!a;c");
    }

    private static void operations() {
        Trial.sentence("(e+e) ..: of numbers, a number");
        String signs = "+-*/<=";
        for (int i = 0; i < signs.length(); i++) {
            String sign = signs.substring(i, i + 1);
            Trial.allGood("A()0=(1" + sign + "2)", "A()1=@(1" + sign + "2)");
            Trial.allWrong("A()0=(!@1" + sign + "n)", "A()0=(!%1,1" + sign + "1)", "A()0=(1" + sign + "!@1)",
                    "A()1=!(1" + sign + "1)", "A()2=!(1" + sign + "1)");
        }
    }

    private static void choiceOfANumber() {
        Trial.sentence("?e(e|e): the first is a number");
        Trial.allWrong("A()0=?!@1(1|2)", "A()0=?!%1,1(1|2)", "A(a1)0=?!a(1|2)", "A()0=?!@1(n|@2)");
        Trial.allGood("A()0=?1(1|2)", "A(a1)0=?#a(~a;1|~a;2)");
    }

    private static void choiceFromWhereTheFirstLeftOff() {
        Trial.sentence("both others are looked at from where the first left off");
        Trial.allWrong("A(a1)0=?~a;1(~!a;1|2)", "A(a1)0=?~a;1(1|~!a;2)", "A(a1)0=?~a;1(#!a|~a;1)",
                "A(a1)0=(?1(~a;1|~a;2)+#!a)");
        Trial.allGood("A(a1)1=?1(a|a)", "A(a1)0=?~a;1(1|2)", "A(a1)1=?1(a{0,1}|a)", "A(a1)0=?1(?1(~a;1|~a;2)|~a;3)");
    }

    private static void choiceOfOneType() {
        Trial.sentence("they must be of one type, which it has, and leave the same owned; otherwise it is WRONG at the "
                + "?", "the type");
        Trial.allWrong("A()0=!?1(2|@3)", "A()1=!?1(2|@3)", "A()0=!?1(@3|2)", "A()1=!?1(@3|%1,1)", "A()2=!?1(@3|%1,1)",
                "A()0=(1+!?1(@3|2))", "A()0=(1+!?1(@1|@2))", "A()0=?1(1|!?1(1|@1))", "A()0=!?1(@3|@2)",
                "A()0=!?1(1|?1(@1|@2))");
        Trial.allGood("A()0=?1(2|3)", "A()1=?1(@2|@3)", "A()2=?1(%1,1|%2,2)");
    }

    private static void choiceThatLeavesTheSame() {
        Trial.sentence("and leave the same owned; otherwise it is WRONG at the ?");
        Trial.allWrong("A(a1)0=!?1(~a;1|2)", "A(a1)0=!?1(2|~a;1)", "A(a1,b1)1=!?1(a|b)", "A(a1)1=!?1(a|@3)",
                "A(a1)1=!?1(@3|a)", "A(a1)1=!?1(a|$a)", "A(a1,b1,c1)0=!?1(~a;~b;1|~b;~c;1)", "A(!a1)0=?1(1|2)",
                "A()0=&a=@1;!?1(~a;1|2)");
        Trial.allGood("A(a1,b1)1=?1(~a;b|~b;a)", "A(a1)0=(?1(#a|#a)+~a;1)", "A(a1,b1)0=?1(~a;~b;1|~b;~a;1)");
    }

    private static void bindingOfWhatIsBound() {
        Trial.sentence("&v=e;e: first of all WRONG at v if that is bound there already");
        Trial.allWrong("A(n0)0=&!n=m;1", "A(n0)0=&!n=1;1", "A()0=&a=1;&!a=2;a", "A()0=&a=1;(1+&!a=n;a)",
                "A(a1)1=~a;&!a=@1;a", "A()0=&a=@1;~a;&!a=1;a", "A(a0,b0,c0,d0)0=&!d=1;1", "A()0=&a=1;&b=&!a=2;a;b");
        Trial.allGood("A(n0)0=&m=n;m", "A()0=&a=&a=1;a;a", "A()0=(&a=1;a+&a=1;a)");
    }

    private static void bindingHasTheSecondsType() {
        Trial.sentence("it has the second's type");
        Trial.allWrong("A()0=!&a=1;@a", "A()1=!&a=@1;~a;1", "A()2=!&a=%1,1;&b=@1;~a;b");
        Trial.allGood("A()1=&a=1;@a", "A()0=&a=@1;~a;1", "A()2=&a=@1;~a;%1,1");
    }

    private static void bindingOwnedBehindIt() {
        Trial.sentence("WRONG at v if v is an array's and owned behind it");
        Trial.allWrong("A()0=&!a=@1;1", "A()0=&!a=%1,1;1", "A()1=&!a=@1;$a", "A()0=&a=@1;&!b=%1,1;~a;1",
                "A()0=&!a=@1;&b=%1,1;~b;1", "A()0=&a=@1;&!b=@1;1", "A()0=&!a=@1;@2", "A()0=&a=@1;(1+!@2)",
                "A()0=&a=@1;!n", "A()0=?1(&!a=@1;1|@2)", "A(a1)0=&!b=a;1", "A(a1,c1)0=&!b=a;1");
        Trial.allGood("A()0=&a=1;2", "A()0=&a=@1;~a;2", "A()1=&a=@1;a", "A()1=&a=@1;a{0,1}");
    }

    private static void sizesAreNumbers() {
        Trial.sentence("@e: of a number, a row. %e,e: of numbers, a table");
        Trial.allWrong("A()1=@!@1", "A()1=@!%1,1", "A()2=%!@1,1", "A()2=%1,!@1", "A()2=!@1", "A()1=!%1,1", "A()0=!@1",
                "A()0=!%1,1");
        Trial.allGood("A(n0)1=@n", "A(n0)2=%n,(n+1)");
    }

    private static void readingsAndUpdates() {
        Trial.sentence("v[e]: numbers, then v, a row; v[e,e] a table: a number. "
                + "v{e,e}: numbers, then v, a row; v{e,e,e} a table");
        Trial.allWrong("A(a1)0=a[!@1]", "A(a2)0=a[1,!@1]", "A(a2)0=a[!@1,1]", "A(a1)1=a{!@1,1}", "A(a1)1=a{1,!@1}",
                "A(a2)2=a{1,1,!@1}", "A(a1)1=!a[0]", "A(a2)2=!a[0,0]", "A(a1)0=!a{0,0}", "A(a1)2=!a{0,0}",
                "A(a2)0=!a{0,0,0}", "A(a2)1=!a{0,0,0}", "A(a1)1=a{0,!a}", "A(a1)0=a[!a]");
    }

    private static void updateUsesUp() {
        Trial.sentence("it is of v's type, v is used up");
        Trial.allWrong("A(a1)1=&b=a{0,1};~b;!a", "A(a2)2=&b=a{0,0,1};&c=!a{0,0,1};~b;c", "A(a1)0=&!b=a{0,1};1",
                "A(a1)0=&b=a{0,1};(#b+#!a)");
        Trial.allGood("A(a1)1=&b=a{0,1};b{1,1}", "A(a2)2=&b=a{0,0,1};b{0,0,2}");
    }

    private static void howMany() {
        Trial.sentence("#v: v is an array's, a number. ^v: v is a table's, a number");
        Trial.allWrong("A(a0)0=#!a", "A(a0)0=^!a", "A(a1)0=^!a", "A(a1)1=!#a", "A(a2)2=!#a", "A(a2)2=!^a", "A(!a1)0=#a",
                "A(!a2)0=^a");
        Trial.allGood("A(a1)0=(#a+~a;0)", "A(a2)0=(#a+~a;0)", "A(a2)0=(^a+~a;0)", "A(a2)2=a{#a,^a,(#a+^a)}");
    }

    private static void copyStaysOwned() {
        Trial.sentence("$v: v is an array's: its type, v stays owned");
        Trial.allWrong("A(!a1)1=$a", "A(a1)2=!$a", "A(a2)1=!$a", "A(a1)0=!$a", "A(a1)0=&!b=$a;~a;1",
                "A(!a1)0=&b=$a;~b;1");
        Trial.allGood("A(a1)1=&b=$a;~a;b", "A(a1)1=&b=$a;~b;a", "A(a2)2=&b=$a;&c=$a;~a;~c;b");
    }

    private static void givingUp() {
        Trial.sentence("~v;e: first v, an array's, which is used up; it has e's type");
        Trial.allWrong("A(a0)0=~!a;n", "A(a1)0=~a;!n", "A(a1)0=~a;~!a;n", "A(a1)1=!~a;1", "A(a1)0=!~a;@1",
                "A(a1)2=!~a;@1", "A(a1)0=(1+!~a;@1)", "A(a1,!b1)0=~a;1");
        Trial.allGood("A(a1)0=~a;1", "A(a1)1=~a;@1", "A(a1,b2)2=~a;b");
    }

    private static void callOfNothing() {
        Trial.sentence("A function's name: WRONG at it if it isn't defined (nor the one that is looked at)");
        Trial t = new Trial().wrongAt("A()0=!B()").wrongAt("A()0=!B(n)").wrongAt("A()0=&a=!B();n")
                .good("A()0=A()", 1).good("B()0=A()", 2);
        t.good("C(n0)0=?n((A()+C(B()))|0)", 3).wrongAt("D()0=!E()").wrongAt("D()0=(A()+!E())").wrongAt("!A()0=E()");
        t.x.clear();
        t.wrongAt("D()0=!A()").wrongAt("D()0=!C(1)").good("D()0=D()", 1);
    }

    private static void numberOfParts() {
        Trial.sentence("or has another number of parameters");
        Trial t = new Trial().good("A()0=1", 1).good("B(a0)0=1", 2).good("C(a0,b0)0=1", 3).good("D(a0,b0,c0,d0)0=1", 4);
        t.wrongAt("E()0=!A(1)").wrongAt("E()0=!A(n)").wrongAt("E()0=!B()").wrongAt("E()0=!B(1,2)").wrongAt("E()0=!C(1)")
                .wrongAt("E()0=!C(1,2,n)").wrongAt("E()0=!D(1,2,3)").wrongAt("E()0=!D()")
                .good("E()0=(A()+(B(1)+(C(1,2)+D(1,2,3,4))))", 5);
        // The one that is looked at has as many as it says.
        new Trial().wrongAt("A(n0)0=!A()").wrongAt("A(n0)0=!A(n,n)").wrongAt("A()0=!A(n)").good("A(n0)0=A(n)", 1);
    }

    private static void typesOfParts() {
        Trial.sentence("then its parts, of the parameters' types; it has the result's type");
        Trial t = new Trial().good("A(n0,a1,t2)1=~t;a{n,0}", 1);
        t.wrongAt("B()1=A(!@1,n,n)").wrongAt("B()1=A(!%1,1,n,n)").wrongAt("B()1=A(1,!2,n)").wrongAt("B()1=A(1,!%1,1,n)")
                .wrongAt("B()1=A(1,@1,@!n)").wrongAt("B()1=A(1,@1,!@1)").wrongAt("B()1=A(1,@1,!1)")
                .wrongAt("B()0=!A(1,@1,%1,1)")
                .wrongAt("B()2=!A(1,@1,%1,1)").wrongAt("B(a1)1=A(1,a,?#!a(%1,1|%2,2))").wrongAt("B(!a1)1=A(#a,$a,%1,1)");
        t.good("B(a1)1=A(#a,a,%1,1)", 2).good("C(t2)1=A(^t,@#t,t)", 3).wrongAt("D(a1)1=B(B(B(!1)))")
                .good("D()1=B(B(@1))", 4);
        Trial.allWrong("A(n0)0=A(!@n)", "A(n0)1=(1+!A(n))", "A(a1)1=A(!1)", "A(n0)1=A(!A(n))");
    }
}
