/** Promise 4: place tells where the text of the latest define was ill or wrong; which places, is in the Terms' tests. */
public final class Promise04PlaceTest {
    public static void main(String[] args) {
        ofTheLatestDefine();
        neither();
        thereWasNone();
        firstAndLastPlaces();
        onlyDefineChangesIt();
        Trial.end();
    }

    private static void ofTheLatestDefine() {
        Trial.sentence("The place where the text of the latest define was ILL or WRONG");
        new Trial().illAt("A()0=1!)").illAt("A!").wrongAt("A()0=(1+!n)").wrongAt("A()0=!n").illAt("!")
                .good("A()0=1", 1).wrongAt("!A()0=1");
    }

    private static void neither() {
        Trial.sentence("NONE if it was neither");
        new Trial().good("A()0=1", 1).good("B()0=A()", 2);
        new Trial().illAt("A!").good("A()0=1", 1);
        new Trial().wrongAt("A()0=!n").good("A()0=1", 1);
    }

    private static void thereWasNone() {
        Trial.sentence("or there was none");
        Trial t = new Trial();
        Trial.due("place of a new object", t.x.place(), SoleArrays.NONE);
        t.type("!");
        t.fails('A', Trial.NOT_RUN);
        t.x.clear();
        Trial.due("place before a define", t.x.place(), SoleArrays.NONE);
    }

    private static void firstAndLastPlaces() {
        Trial.sentence("The place", "from 0 to the text's length");
        new Trial().ill("", 0).ill("!", 0).ill("A", 1).ill("A()0=1!", 6).illAt("A()0=(1+2!");
        new Trial().good("A()0=1", 1).wrongAt("!A()0=1").wrongAt("B()0=(1+!n)").wrongAt("B(a1)0=#!b");
    }

    private static void onlyDefineChangesIt() {
        Trial.sentence("of the latest define");
        Trial t = new Trial().good("A()0=1", 1).good("B()0=(1/0)", 2).illAt("C()0=1!+");
        t.type("C()0=n").givesNumber('A', 1).fails('B', Trial.DIVIDED).fails('H', Trial.NOT_RUN).arguments(1);
        t.x.clear();
        Trial.due("place after all calls but define", t.x.place(), 6);
        Trial.due("place again", t.x.place(), 6);
        t.wrong("", 5);
    }
}
