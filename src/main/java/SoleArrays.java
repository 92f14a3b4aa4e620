import java.util.Arrays;

/**
 * Functions over numbers, rows and tables in which every row and table has one owner. A text is read by
 * Reader, checked by Checker and worked out by Runner, which keeps the rows and tables in its Store.
 */
public final class SoleArrays {
    public static final int NONE = -1;

    private static final int NUMBER = 0;
    private static final int ROW = 1;
    private static final int TABLE = 2;

    private static final int VARIABLES = 20;
    private static final int FUNCTIONS = 8;
    private static final int MOST_PARAMETERS = 4;
    private static final int LONGEST_TEXT = 150;
    private static final int DEEPEST_EXPRESSION = 8;
    private static final int DEEPEST_CALL = 8;
    private static final int MOST_EXPRESSIONS = 400;
    private static final int MOST_ARRAYS = 8;
    private static final int MOST_NUMBERS = 40;

    private final char[] text = new char[LONGEST_TEXT];
    private final Fault fault = new Fault();
    private final Function[] functions = new Function[FUNCTIONS];
    private final long[] arguments = new long[MOST_PARAMETERS];
    private final Runner runner = new Runner();
    // Blanks take room in a text but have no place in it, so they are counted in one of these only.
    private int typed = 0;
    private int length = 0;
    private int defined = 0;
    private int resultType = NONE;
    // The number, or which of the store's arrays it is.
    private long result = 0;

    public SoleArrays() {
    }

    public boolean type(char c) {
        if (c < ' ' || c > '~' || typed >= LONGEST_TEXT) {
            return false;
        }
        typed++;
        if (c != ' ') {
            text[length] = c;
            length++;
        }
        return true;
    }

    public int define() throws IllegalArgumentException, IllegalStateException {
        int end = length;
        typed = 0;
        length = 0;
        fault.place = NONE;
        Function function = new Reader(text, end, fault).readFunction();
        new Checker(function, functions, fault).check();
        functions[function.name] = function;
        defined++;
        return defined;
    }

    public int place() {
        return fault.place;
    }

    public int clear() {
        int gone = defined;
        for (int i = 0; i < FUNCTIONS; i++) {
            functions[i] = null;
        }
        defined = 0;
        return gone;
    }

    public boolean argument(int k, long v) {
        if (k < 0 || k >= MOST_PARAMETERS) {
            return false;
        }
        arguments[k] = v;
        return true;
    }

    public int run(char function) throws IllegalArgumentException, IllegalStateException,
            IndexOutOfBoundsException, ArithmeticException, UnsupportedOperationException {
        Function first = functionNamed(function);
        if (first == null || !first.takesNumbersOnly()) {
            throw new IllegalArgumentException("no such function, or one that takes more than numbers");
        }
        // If the run throws there is no result, so the old one goes first.
        resultType = NONE;
        result = runner.start(first, arguments);
        resultType = first.resultType;
        return resultType;
    }

    public int kind() {
        return resultType;
    }

    public long value() {
        return resultType == NUMBER ? result : 0;
    }

    public int size(int what) {
        if (what == 0 && isArray(resultType)) {
            return runner.store.heights[(int) result];
        }
        if (what == 1 && resultType == TABLE) {
            return runner.store.widths[(int) result];
        }
        return 0;
    }

    public long cell(int i, int j) {
        if (!isArray(resultType)) {
            return 0;
        }
        int array = (int) result;
        int column = resultType == ROW ? 0 : j;
        return runner.store.has(array, i, column) ? runner.store.numberAt(array, i, column) : 0;
    }

    public int counted(int what) {
        switch (what) {
            case 0:
                return runner.begun;
            case 1:
                return runner.store.made;
            case 2:
                return runner.store.most;
            case 3:
                return runner.updates;
            default:
                return 0;
        }
    }

    private Function functionNamed(char name) {
        return name >= 'A' && name <= 'H' ? functions[name - 'A'] : null;
    }

    private static boolean isArray(int type) {
        return type == ROW || type == TABLE;
    }

    /** Where the latest text was ill or wrong: it outlives the Reader and the Checker that find it. */
    private static final class Fault {
        int place = NONE;

        void ill(int at) {
            place = at;
            throw new IllegalArgumentException("the text is ill");
        }

        void wrong(int at) {
            place = at;
            throw new IllegalStateException("the function is wrong");
        }
    }

    private enum Form {
        DIGITS, VARIABLE, OPERATION, CHOICE, BINDING, NEW_ROW, NEW_TABLE,
        READING, UPDATE, HEIGHT, WIDTH, COPY, GIVING_UP, CALL
    }

    /** An expression of any form; what its form has no use for stays as it is made. */
    private static final class Expression {
        final Form form;
        final int place;
        final Expression[] parts = new Expression[MOST_PARAMETERS];
        int partCount = 0;
        long number = 0;
        char operation = ' ';
        int variable = 0;
        int variablePlace = 0;
        int calleeName = 0;
        // Known once the expression has been looked at.
        Function callee = null;

        Expression(Form form, int place) {
            this.form = form;
            this.place = place;
        }

        void add(Expression part) {
            if (partCount < MOST_PARAMETERS) {
                parts[partCount] = part;
                partCount++;
            }
        }
    }

    private static final class Function {
        final int name;
        final int[] variables = new int[MOST_PARAMETERS];
        final int[] variablePlaces = new int[MOST_PARAMETERS];
        final int[] types = new int[MOST_PARAMETERS];
        int parameterCount = 0;
        int resultType = NUMBER;
        Expression body = null;

        Function(int name) {
            this.name = name;
        }

        void addParameter(int variable, int variablePlace, int parameterType) {
            if (parameterCount < MOST_PARAMETERS) {
                variables[parameterCount] = variable;
                variablePlaces[parameterCount] = variablePlace;
                types[parameterCount] = parameterType;
                parameterCount++;
            }
        }

        boolean takesNumbersOnly() {
            for (int i = 0; i < parameterCount; i++) {
                if (types[i] != NUMBER) {
                    return false;
                }
            }
            return true;
        }
    }

    /** Reads a text into a function, or finds the first place where a character can't stand. */
    private static final class Reader {
        // No text holds this character, so it stands nowhere.
        private static final char END = 0;
        private static final int MOST_DIGITS = 4;

        private final char[] text;
        private final int length;
        private final Fault fault;
        private int at = 0;

        Reader(char[] text, int length, Fault fault) {
            this.text = text;
            this.length = length;
            this.fault = fault;
        }

        Function readFunction() {
            Function function = new Function(takeOneOf('A', 'H'));
            take('(');
            for (int i = 0; i < MOST_PARAMETERS && next() != ')'; i++) {
                takeCommaBefore(i);
                readParameter(function);
            }
            take(')');
            function.resultType = takeOneOf('0', '2');
            take('=');
            function.body = readExpression(1);
            if (at < length) {
                fault.ill(at);
            }
            return function;
        }

        private void readParameter(Function function) {
            int variablePlace = at;
            int variable = takeOneOf('a', 't');
            function.addParameter(variable, variablePlace, takeOneOf('0', '2'));
        }

        private Expression readExpression(int depth) {
            if (depth > DEEPEST_EXPRESSION) {
                return refuse();
            }
            if (nextIsOneOf('0', '9')) {
                return readDigits();
            }
            if (nextIsOneOf('a', 't')) {
                return readFromVariable(depth);
            }
            if (nextIsOneOf('A', 'H')) {
                return readCall(depth);
            }
            switch (next()) {
                case '(':
                    return readOperation(depth);
                case '?':
                    return readChoice(depth);
                case '&':
                    return readBinding(depth);
                case '@':
                    return readNewRow(depth);
                case '%':
                    return readNewTable(depth);
                case '#':
                    return readSignAndVariable(Form.HEIGHT);
                case '^':
                    return readSignAndVariable(Form.WIDTH);
                case '$':
                    return readSignAndVariable(Form.COPY);
                case '~':
                    return readGivingUp(depth);
                default:
                    return refuse();
            }
        }

        private Expression refuse() {
            fault.ill(at);
            return null;
        }

        private Expression readDigits() {
            Expression digits = new Expression(Form.DIGITS, at);
            for (int i = 0; i < MOST_DIGITS && nextIsOneOf('0', '9'); i++) {
                digits.number = digits.number * 10 + takeOneOf('0', '9');
            }
            return digits;
        }

        private Expression readFromVariable(int depth) {
            int place = at;
            int variable = takeOneOf('a', 't');
            Expression whole;
            if (next() == '[') {
                whole = readReading(place, depth);
            } else if (next() == '{') {
                whole = readUpdate(place, depth);
            } else {
                whole = new Expression(Form.VARIABLE, place);
            }
            whole.variable = variable;
            whole.variablePlace = place;
            return whole;
        }

        private Expression readReading(int place, int depth) {
            Expression reading = new Expression(Form.READING, place);
            take('[');
            reading.add(readExpression(depth + 1));
            if (next() == ',') {
                take(',');
                reading.add(readExpression(depth + 1));
            }
            take(']');
            return reading;
        }

        private Expression readUpdate(int place, int depth) {
            Expression update = new Expression(Form.UPDATE, place);
            take('{');
            update.add(readExpression(depth + 1));
            take(',');
            update.add(readExpression(depth + 1));
            if (next() == ',') {
                take(',');
                update.add(readExpression(depth + 1));
            }
            take('}');
            return update;
        }

        private Expression readCall(int depth) {
            Expression call = new Expression(Form.CALL, at);
            call.calleeName = takeOneOf('A', 'H');
            take('(');
            for (int i = 0; i < MOST_PARAMETERS && next() != ')'; i++) {
                takeCommaBefore(i);
                call.add(readExpression(depth + 1));
            }
            take(')');
            return call;
        }

        private Expression readOperation(int depth) {
            Expression operation = new Expression(Form.OPERATION, at);
            take('(');
            operation.add(readExpression(depth + 1));
            operation.operation = takeOperation();
            operation.add(readExpression(depth + 1));
            take(')');
            return operation;
        }

        private char takeOperation() {
            char operation = next();
            switch (operation) {
                case '+':
                case '-':
                case '*':
                case '/':
                case '<':
                case '=':
                    at++;
                    break;
                default:
                    fault.ill(at);
            }
            return operation;
        }

        private Expression readChoice(int depth) {
            Expression choice = new Expression(Form.CHOICE, at);
            take('?');
            choice.add(readExpression(depth + 1));
            take('(');
            choice.add(readExpression(depth + 1));
            take('|');
            choice.add(readExpression(depth + 1));
            take(')');
            return choice;
        }

        private Expression readBinding(int depth) {
            Expression binding = readSignAndVariable(Form.BINDING);
            take('=');
            binding.add(readExpression(depth + 1));
            take(';');
            binding.add(readExpression(depth + 1));
            return binding;
        }

        private Expression readGivingUp(int depth) {
            Expression givingUp = readSignAndVariable(Form.GIVING_UP);
            take(';');
            givingUp.add(readExpression(depth + 1));
            return givingUp;
        }

        private Expression readNewRow(int depth) {
            Expression row = new Expression(Form.NEW_ROW, at);
            take('@');
            row.add(readExpression(depth + 1));
            return row;
        }

        private Expression readNewTable(int depth) {
            Expression table = new Expression(Form.NEW_TABLE, at);
            take('%');
            table.add(readExpression(depth + 1));
            take(',');
            table.add(readExpression(depth + 1));
            return table;
        }

        private Expression readSignAndVariable(Form form) {
            Expression whole = new Expression(form, at);
            at++;
            whole.variablePlace = at;
            whole.variable = takeOneOf('a', 't');
            return whole;
        }

        private char next() {
            return at < length ? text[at] : END;
        }

        private boolean nextIsOneOf(char first, char last) {
            return next() >= first && next() <= last;
        }

        private void take(char due) {
            if (next() != due) {
                fault.ill(at);
            }
            at++;
        }

        private int takeOneOf(char first, char last) {
            char c = next();
            if (c < first || c > last) {
                fault.ill(at);
            }
            at++;
            return c - first;
        }

        private void takeCommaBefore(int position) {
            if (position > 0) {
                take(',');
            }
        }
    }

    /** Looks at a function that has been read, and finds the first thing in it that is wrong. */
    private static final class Checker {
        private final Function subject;
        private final Function[] functions;
        private final Fault fault;
        // The type of each variable that is bound where the checker is, NONE of the others.
        private final int[] types = new int[VARIABLES];
        // A bit for each variable, set while it owns an array.
        private int owned = 0;

        Checker(Function subject, Function[] functions, Fault fault) {
            this.subject = subject;
            this.functions = functions;
            this.fault = fault;
        }

        void check() {
            if (functions[subject.name] != null) {
                fault.wrong(0);
            }
            Arrays.fill(types, NONE);
            for (int i = 0; i < subject.parameterCount; i++) {
                refuseIfBound(subject.variables[i], subject.variablePlaces[i]);
                bind(subject.variables[i], subject.types[i]);
            }
            if (look(subject.body) != subject.resultType) {
                fault.wrong(subject.body.place);
            }
            for (int i = 0; i < subject.parameterCount; i++) {
                refuseIfOwned(subject.variables[i], subject.variablePlaces[i]);
            }
        }

        private int look(Expression e) {
            switch (e.form) {
                case VARIABLE:
                    return useUp(e, NUMBER, TABLE);
                case CHOICE:
                    return lookAtChoice(e);
                case BINDING:
                    return lookAtBinding(e);
                case NEW_ROW:
                    lookAtNumbers(e);
                    return ROW;
                case NEW_TABLE:
                    lookAtNumbers(e);
                    return TABLE;
                case READING:
                    lookAtNumbers(e);
                    int readType = e.partCount == 1 ? ROW : TABLE;
                    lookAtVariable(e, readType, readType);
                    return NUMBER;
                case UPDATE:
                    lookAtNumbers(e);
                    int updatedType = e.partCount == 2 ? ROW : TABLE;
                    return useUp(e, updatedType, updatedType);
                case HEIGHT:
                    lookAtVariable(e, ROW, TABLE);
                    return NUMBER;
                case WIDTH:
                    lookAtVariable(e, TABLE, TABLE);
                    return NUMBER;
                case COPY:
                    return lookAtVariable(e, ROW, TABLE);
                case GIVING_UP:
                    useUp(e, ROW, TABLE);
                    return look(e.parts[0]);
                case CALL:
                    return lookAtCall(e);
                default:
                    // Digits, which have no parts, and operations.
                    lookAtNumbers(e);
                    return NUMBER;
            }
        }

        private void lookAtNumbers(Expression e) {
            for (int i = 0; i < e.partCount; i++) {
                lookAtPart(e.parts[i], NUMBER);
            }
        }

        private void lookAtPart(Expression part, int wanted) {
            if (look(part) != wanted) {
                fault.wrong(part.place);
            }
        }

        private int lookAtChoice(Expression e) {
            lookAtPart(e.parts[0], NUMBER);
            int ownedBefore = owned;
            int type = look(e.parts[1]);
            int ownedAfter = owned;
            owned = ownedBefore;
            if (look(e.parts[2]) != type || owned != ownedAfter) {
                fault.wrong(e.place);
            }
            return type;
        }

        private int lookAtBinding(Expression e) {
            refuseIfBound(e.variable, e.variablePlace);
            bind(e.variable, look(e.parts[0]));
            int type = look(e.parts[1]);
            refuseIfOwned(e.variable, e.variablePlace);
            types[e.variable] = NONE;
            return type;
        }

        private int lookAtCall(Expression e) {
            Function callee = e.calleeName == subject.name ? subject : functions[e.calleeName];
            if (callee == null || callee.parameterCount != e.partCount) {
                fault.wrong(e.place);
                return NONE;
            }
            e.callee = callee;
            for (int i = 0; i < e.partCount; i++) {
                lookAtPart(e.parts[i], callee.types[i]);
            }
            return callee.resultType;
        }

        /** The type of an expression's variable, which must be owned if it is an array's, and from least to most. */
        private int lookAtVariable(Expression e, int least, int most) {
            int type = types[e.variable];
            boolean lost = isArray(type) && !isOwned(e.variable);
            if (type == NONE || lost || type < least || type > most) {
                fault.wrong(e.variablePlace);
            }
            return type;
        }

        private int useUp(Expression e, int least, int most) {
            int type = lookAtVariable(e, least, most);
            owned &= ~(1 << e.variable);
            return type;
        }

        private void bind(int variable, int type) {
            types[variable] = type;
            if (isArray(type)) {
                owned |= 1 << variable;
            }
        }

        private void refuseIfBound(int variable, int variablePlace) {
            if (types[variable] != NONE) {
                fault.wrong(variablePlace);
            }
        }

        private void refuseIfOwned(int variable, int variablePlace) {
            if (isOwned(variable)) {
                fault.wrong(variablePlace);
            }
        }

        private boolean isOwned(int variable) {
            return (owned >> variable & 1) != 0;
        }
    }

    /** The arrays that are there, each known by its index; a row is kept as a table of one column. */
    private static final class Store {
        final int[] heights = new int[MOST_ARRAYS];
        final int[] widths = new int[MOST_ARRAYS];
        int made = 0;
        int most = 0;
        private final long[][] numbers = new long[MOST_ARRAYS][MOST_NUMBERS];
        private final boolean[] taken = new boolean[MOST_ARRAYS];
        private int there = 0;

        void empty() {
            for (int i = 0; i < MOST_ARRAYS; i++) {
                taken[i] = false;
            }
            there = 0;
            made = 0;
            most = 0;
        }

        int make(long height, long width) {
            if (height < 0 || width < 0) {
                throw new IllegalStateException("a size below 0");
            }
            // The sides are compared first, for the product of two long ones could wrap.
            if (height > MOST_NUMBERS || width > MOST_NUMBERS || height * width > MOST_NUMBERS) {
                throw new UnsupportedOperationException("too many numbers, rows or columns");
            }
            int array = firstFree();
            if (array == NONE) {
                throw new UnsupportedOperationException("too many arrays");
            }
            taken[array] = true;
            heights[array] = (int) height;
            widths[array] = (int) width;
            Arrays.fill(numbers[array], 0);
            there++;
            made++;
            most = Math.max(most, there);
            return array;
        }

        int copy(int array) {
            int other = make(heights[array], widths[array]);
            System.arraycopy(numbers[array], 0, numbers[other], 0, MOST_NUMBERS);
            return other;
        }

        void giveUp(int array) {
            taken[array] = false;
            there--;
        }

        boolean has(int array, long i, long j) {
            return i >= 0 && i < heights[array] && j >= 0 && j < widths[array];
        }

        long numberAt(int array, long i, long j) {
            return numbers[array][indexOf(array, i, j)];
        }

        void put(int array, long i, long j, long number) {
            numbers[array][indexOf(array, i, j)] = number;
        }

        private int indexOf(int array, long i, long j) {
            if (!has(array, i, j)) {
                throw new IndexOutOfBoundsException("no number there");
            }
            return (int) (i * widths[array] + j);
        }

        private int firstFree() {
            for (int i = 0; i < MOST_ARRAYS; i++) {
                if (!taken[i]) {
                    return i;
                }
            }
            return NONE;
        }
    }

    /**
     * Works expressions out. Every value is a long: a number, or an array's index in the store; the checker
     * has seen to it that neither is ever taken for the other, and that no array has two owners.
     */
    private static final class Runner {
        // One for the function that is run, and one for each expression that can stand open and be a call.
        private static final int MOST_FRAMES = 1 + DEEPEST_CALL * DEEPEST_EXPRESSION;

        final Store store = new Store();
        int begun = 0;
        int updates = 0;
        private final long[][] frames = new long[MOST_FRAMES][VARIABLES];
        private int framesTaken = 0;

        long start(Function function, long[] arguments) {
            store.empty();
            begun = 0;
            updates = 0;
            framesTaken = 1;
            for (int i = 0; i < function.parameterCount; i++) {
                frames[0][function.variables[i]] = arguments[i];
            }
            return work(function.body, 1, 0);
        }

        private long work(Expression e, int calls, int frame) {
            if (begun >= MOST_EXPRESSIONS) {
                throw new UnsupportedOperationException("too many expressions");
            }
            begun++;
            switch (e.form) {
                case DIGITS:
                    return e.number;
                case VARIABLE:
                    return frames[frame][e.variable];
                case OPERATION:
                    return operate(e.operation, work(e.parts[0], calls, frame), work(e.parts[1], calls, frame));
                case CHOICE:
                    int chosen = work(e.parts[0], calls, frame) != 0 ? 1 : 2;
                    return work(e.parts[chosen], calls, frame);
                case BINDING:
                    frames[frame][e.variable] = work(e.parts[0], calls, frame);
                    return work(e.parts[1], calls, frame);
                case NEW_ROW:
                    return store.make(work(e.parts[0], calls, frame), 1);
                case NEW_TABLE:
                    return store.make(work(e.parts[0], calls, frame), work(e.parts[1], calls, frame));
                case READING:
                    return readNumber(e, calls, frame);
                case UPDATE:
                    return update(e, calls, frame);
                case HEIGHT:
                    return store.heights[arrayOf(e, frame)];
                case WIDTH:
                    return store.widths[arrayOf(e, frame)];
                case COPY:
                    return store.copy(arrayOf(e, frame));
                case GIVING_UP:
                    store.giveUp(arrayOf(e, frame));
                    return work(e.parts[0], calls, frame);
                default:
                    return call(e, calls, frame);
            }
        }

        private int arrayOf(Expression e, int frame) {
            return (int) frames[frame][e.variable];
        }

        private static long operate(char operation, long left, long right) {
            switch (operation) {
                case '+':
                    return left + right;
                case '-':
                    return left - right;
                case '*':
                    return left * right;
                case '/':
                    return divide(left, right);
                case '<':
                    return left < right ? 1 : 0;
                default:
                    return left == right ? 1 : 0;
            }
        }

        private static long divide(long left, long right) {
            if (right == 0) {
                throw new ArithmeticException("divided by 0");
            }
            return left / right;
        }

        private long readNumber(Expression e, int calls, int frame) {
            long i = work(e.parts[0], calls, frame);
            long j = e.partCount == 2 ? work(e.parts[1], calls, frame) : 0;
            return store.numberAt(arrayOf(e, frame), i, j);
        }

        private long update(Expression e, int calls, int frame) {
            long i = work(e.parts[0], calls, frame);
            long j = e.partCount == 3 ? work(e.parts[1], calls, frame) : 0;
            long number = work(e.parts[e.partCount - 1], calls, frame);
            int array = arrayOf(e, frame);
            store.put(array, i, j, number);
            updates++;
            return array;
        }

        /** The callee's frame is taken before its parts are worked out, so that calls among them can't use it. */
        private long call(Expression e, int calls, int frame) {
            Function callee = e.callee;
            int calleeFrame = framesTaken;
            framesTaken++;
            for (int i = 0; i < e.partCount; i++) {
                frames[calleeFrame][callee.variables[i]] = work(e.parts[i], calls, frame);
            }
            if (calls >= DEEPEST_CALL) {
                throw new UnsupportedOperationException("too many calls in one another");
            }
            long answer = work(callee.body, calls + 1, calleeFrame);
            framesTaken--;
            return answer;
        }
    }
}
