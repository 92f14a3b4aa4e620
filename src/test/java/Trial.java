/** An object on trial: calls it, and prints every answer that is not the one that is due. */
final class Trial {
    static final String NOTHING = "nothing";
    static final String ILL = "IllegalArgumentException";
    static final String WRONG = "IllegalStateException";
    static final String NOT_RUN = "IllegalArgumentException";
    static final String BELOW_0 = "IllegalStateException";
    static final String OUTSIDE = "IndexOutOfBoundsException";
    static final String DIVIDED = "ArithmeticException";
    static final String TOO_MUCH = "UnsupportedOperationException";

    /** Stands in a text before the place that is meant, so that places need not be counted by hand. */
    static final char MARK = '!';

    private static int wrong = 0;
    private static String sentence = "";

    final SoleArrays x = new SoleArrays();

    /** The words of the document that the calls from here on try. */
    static void sentence(String words) {
        sentence = "\"" + words + "\": ";
    }

    /** The same, of which only one side is tried. */
    static void sentence(String words, String side) {
        sentence = "\"" + words + "\" (" + side + "): ";
    }

    static void due(String what, long got, long want) {
        if (got != want) {
            report(what + " answered " + got + ", due is " + want);
        }
    }

    static void due(String what, boolean got, boolean want) {
        due(what, got ? 1 : 0, want ? 1 : 0);
    }

    static void due(String what, String got, String want) {
        if (!got.equals(want)) {
            report(what + " answered " + got + ", due is " + want);
        }
    }

    static void dueThrown(String what, String got, String want) {
        if (!got.equals(want)) {
            report(what + " threw " + got + ", due is " + want);
        }
    }

    private static void report(String fault) {
        wrong++;
        System.out.println(sentence + fault);
    }

    /** Ends the test, with exit code 1 if an answer was not as due. */
    static void end() {
        System.out.println(wrong == 0 ? "all answers are as due" : wrong + " answers are not as due");
        if (wrong != 0) {
            System.exit(1);
        }
    }

    Trial type(String text) {
        for (int i = 0; i < text.length(); i++) {
            due("type of '" + text.charAt(i) + "' in " + text, x.type(text.charAt(i)), true);
        }
        return this;
    }

    /** Types and defines a text that is good, so that there are so many functions. */
    Trial good(String text, int functions) {
        type(text);
        String thrown = NOTHING;
        long answer = functions;
        try {
            answer = x.define();
        } catch (RuntimeException e) {
            thrown = e.getClass().getSimpleName();
        }
        dueThrown("define of " + text, thrown, NOTHING);
        due("define of " + text, answer, functions);
        due("place of " + text, x.place(), SoleArrays.NONE);
        return this;
    }

    Trial ill(String text, int place) {
        return bad(text, ILL, place);
    }

    /** A text that is ill at the place that is marked in it. */
    Trial illAt(String marked) {
        return ill(unmarked(marked), markedPlace(marked));
    }

    /** Texts that are ill at the places that are marked in them, each on an object of its own. */
    static void allIll(String... marked) {
        for (String text : marked) {
            new Trial().illAt(text);
        }
    }

    Trial wrong(String text, int place) {
        return bad(text, WRONG, place);
    }

    /** A text that is wrong at the place that is marked in it. */
    Trial wrongAt(String marked) {
        return wrong(unmarked(marked), markedPlace(marked));
    }

    /** Texts that are wrong at the places that are marked in them, each on an object of its own. */
    static void allWrong(String... marked) {
        for (String text : marked) {
            new Trial().wrongAt(text);
        }
    }

    /** Texts that are neither ill nor wrong, each on an object of its own. */
    static void allGood(String... texts) {
        for (String text : texts) {
            new Trial().good(text, 1);
        }
    }

    /** A text in which every character can stand, be it wrong or not. */
    Trial notIll(String text) {
        type(text);
        due("define of " + text + " is ill, which", thrownByDefine().equals(ILL), false);
        return this;
    }

    private static String unmarked(String marked) {
        return marked.replace("" + MARK, "");
    }

    private static int markedPlace(String marked) {
        return marked.substring(0, marked.indexOf(MARK)).replace(" ", "").length();
    }

    private Trial bad(String text, String due, int place) {
        type(text);
        dueThrown("define of " + text, thrownByDefine(), due);
        due("place of " + text, x.place(), place);
        return this;
    }

    String thrownByDefine() {
        try {
            x.define();
            return NOTHING;
        } catch (RuntimeException e) {
            return e.getClass().getSimpleName();
        }
    }

    Trial arguments(long... values) {
        for (int k = 0; k < values.length; k++) {
            due("argument " + k, x.argument(k, values[k]), true);
        }
        return this;
    }

    String thrownByRun(char function) {
        try {
            x.run(function);
            return NOTHING;
        } catch (RuntimeException e) {
            return e.getClass().getSimpleName();
        }
    }

    /** A run that ends with a result of this type. */
    Trial gives(char function, int type) {
        String thrown = NOTHING;
        long answer = type;
        try {
            answer = x.run(function);
        } catch (RuntimeException e) {
            thrown = e.getClass().getSimpleName();
        }
        dueThrown("run of " + function, thrown, NOTHING);
        due("run of " + function, answer, type);
        due("kind after " + function, x.kind(), type);
        return this;
    }

    Trial givesNumber(char function, long number) {
        gives(function, 0);
        due("value after " + function, x.value(), number);
        return this;
    }

    Trial givesRow(char function, long... numbers) {
        gives(function, 1);
        due("size(0) after " + function, x.size(0), numbers.length);
        for (int i = 0; i < numbers.length; i++) {
            due("cell " + i + " after " + function, x.cell(i, 0), numbers[i]);
        }
        return this;
    }

    Trial givesTable(char function, int rows, int columns, long... numbers) {
        gives(function, 2);
        due("size(0) after " + function, x.size(0), rows);
        due("size(1) after " + function, x.size(1), columns);
        for (int i = 0; i < numbers.length; i++) {
            int row = i / columns;
            int column = i % columns;
            due("cell " + row + ", " + column + " after " + function, x.cell(row, column), numbers[i]);
        }
        return this;
    }

    Trial fails(char function, String due) {
        dueThrown("run of " + function, thrownByRun(function), due);
        return this;
    }

    Trial counted(int begun, int made, int most, int updates) {
        due("counted(0)", x.counted(0), begun);
        due("counted(1)", x.counted(1), made);
        due("counted(2)", x.counted(2), most);
        due("counted(3)", x.counted(3), updates);
        return this;
    }

    /** What an object answers that has no result. */
    Trial noResult() {
        due("kind without result", x.kind(), SoleArrays.NONE);
        due("value without result", x.value(), 0);
        due("size(0) without result", x.size(0), 0);
        due("size(1) without result", x.size(1), 0);
        due("cell(0, 0) without result", x.cell(0, 0), 0);
        return this;
    }

    /** The value of an expression over numbers m, n that is defined and run on an object of its own. */
    static void number(String expression, long m, long n, long due) {
        new Trial().good("A(m0,n0)0=" + expression, 1).arguments(m, n).givesNumber('A', due);
    }

    /** What an expression over numbers m, n throws, and how many expressions were begun until then. */
    static void failure(String expression, long m, long n, String due, int begun) {
        Trial t = new Trial().good("A(m0,n0)0=" + expression, 1).arguments(m, n).fails('A', due).noResult();
        due("counted(0) of " + expression, t.x.counted(0), begun);
    }
}
