/** Promise 2: type puts a character with a code of 32 .. 126 behind the text, up to 150 of them. */
public final class Promise02TypeTest {
    public static void main(String[] args) {
        codes();
        length();
        blanks();
        refusedCharactersLeaveNoTrace();
        Trial.end();
    }

    private static void codes() {
        for (int code = 0; code <= 300; code++) {
            SoleArrays x = new SoleArrays();
            Trial.due("type of code " + code, x.type((char) code) ? 1 : 0, code >= 32 && code <= 126 ? 1 : 0);
        }
        Trial.due("type of the last code", new SoleArrays().type('\uffff') ? 1 : 0, 0);
    }

    private static void length() {
        Trial t = new Trial().type("A()0=");
        for (int i = 5; i < 150; i++) {
            Trial.due("type of character " + i, t.x.type('?') ? 1 : 0, 1);
        }
        Trial.due("type of character 150", t.x.type('?') ? 1 : 0, 0);
        Trial.due("type of a blank as character 150", t.x.type(' ') ? 1 : 0, 0);
        Trial.dueThrown("define", t.thrownByDefine(), Trial.ILL);
        for (int i = 0; i < 150; i++) {
            Trial.due("type after define", t.x.type('?') ? 1 : 0, 1);
        }
        Trial.due("type of character 150 after define", t.x.type('?') ? 1 : 0, 0);
    }

    private static void blanks() {
        Trial t = new Trial();
        for (int i = 0; i < 144; i++) {
            Trial.due("type of a blank", t.x.type(' ') ? 1 : 0, 1);
        }
        t.type("A()0=7");
        Trial.due("type of character 150", t.x.type('7') ? 1 : 0, 0);
        t.good("", 1).givesNumber('A', 7);
        new Trial().good("  A ( n 0 ) 0 = 1 2 ", 1).givesNumber('A', 12);
        new Trial().ill(" A ( ) 3", 3).ill(" A ( ) ", 3).ill("    ", 0);
    }

    private static void refusedCharactersLeaveNoTrace() {
        Trial t = new Trial().type("A()0=1");
        Trial.due("type of code 31", t.x.type((char) 31) ? 1 : 0, 0);
        Trial.due("type of code 127", t.x.type((char) 127) ? 1 : 0, 0);
        t.good("2", 1).givesNumber('A', 12);
    }
}
