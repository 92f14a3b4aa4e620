/** Promise 2: type puts a character with a code of 32 .. 126 behind the text, up to 150 of them. */
public final class Promise02TypeTest {
    public static void main(String[] args) {
        behindTheText();
        codes();
        refusedCodesLeaveNoTrace();
        hundredFiftyAreThere();
        blanksAreAmongThem();
        roomAfterDefine();
        Trial.end();
    }

    private static void behindTheText() {
        Trial.sentence("Puts a character behind the text");
        new Trial().type("A()0=").type("12").good("34", 1).givesNumber('A', 1234);
        new Trial().type("A").type("()").ill("", 3);
    }

    private static void codes() {
        Trial.sentence("false if its code isn't 32 .. 126");
        for (int code = 0; code <= Character.MAX_VALUE; code++) {
            Trial.due("type of code " + code, new SoleArrays().type((char) code), code >= 32 && code <= 126);
        }
    }

    private static void refusedCodesLeaveNoTrace() {
        Trial.sentence("false if its code isn't 32 .. 126", "nothing is put then");
        Trial t = new Trial().type("A()0=1");
        for (int i = 0; i < 75; i++) {
            Trial.due("type of code 31", t.x.type((char) 31), false);
            Trial.due("type of code 127", t.x.type((char) 127), false);
        }
        t.good("2" + " ".repeat(143), 1).givesNumber('A', 12);
        Trial only = new Trial();
        Trial.due("type of code 127", only.x.type((char) 127), false);
        only.ill("", 0);
    }

    private static void hundredFiftyAreThere() {
        Trial.sentence("or 150 are there");
        Trial t = new Trial().type("A()0=");
        for (int there = 5; there < 150; there++) {
            Trial.due("type where " + there + " are there", t.x.type('?'), true);
        }
        Trial.due("type where 150 are there", t.x.type('?'), false);
        Trial.due("type of a blank where 150 are there", t.x.type(' '), false);
        Trial.due("type of code 31 where 150 are there", t.x.type((char) 31), false);
        Trial.due("type where 150 are there still", t.x.type('?'), false);
    }

    private static void blanksAreAmongThem() {
        Trial.sentence("or 150 are there", "at most 150 characters with codes 32 .. 126");
        Trial t = new Trial().type(" ".repeat(144)).type("A()0=7");
        Trial.due("type of a digit where 150 are there", t.x.type('7'), false);
        t.good("", 1).givesNumber('A', 7);
        Trial blanks = new Trial().type(" ".repeat(150));
        Trial.due("type of a blank where 150 are there", blanks.x.type(' '), false);
        Trial.due("type of a letter where 150 are there", blanks.x.type('A'), false);
        blanks.ill("", 0);
    }

    private static void roomAfterDefine() {
        Trial.sentence("or 150 are there", "none after a define");
        String[] texts = {"A()0=1", "A()0=", "A()0=n"};
        for (String text : texts) {
            Trial t = new Trial().type(text + " ".repeat(150 - text.length()));
            t.thrownByDefine();
            t.type("B()0=2" + " ".repeat(144));
            Trial.due("type where 150 are there again", t.x.type(' '), false);
            t.good("", text.endsWith("1") ? 2 : 1);
        }
    }
}
