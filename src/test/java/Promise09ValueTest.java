/** Promise 9: value is the result, if it is a number, else 0. */
public final class Promise09ValueTest {
    public static void main(String[] args) {
        theNumber();
        elseZero();
        Trial.end();
    }

    private static Trial values() {
        // An array is made before the one that is given, so that a value that told which one it is would not be 0.
        return new Trial().good("A(n0)0=(n*3)", 1).good("B(n0)1=&a=@1;&b=@n;~a;b", 2).good("C(n0)2=&a=@1;&b=%n,n;~a;b", 3)
                .good("D(n0)0=(1/n)", 4);
    }

    private static void value(Trial t, long due) {
        Trial.due("value", t.x.value(), due);
    }

    private static void theNumber() {
        Trial.sentence("The result, if it is a number");
        long[] numbers = {0, 1, -1, 3, -3, 1L << 40};
        for (long n : numbers) {
            values().arguments(n).givesNumber('A', 3 * n);
        }
        long most = Long.MAX_VALUE;
        value(values().arguments(most).givesNumber('A', most - 2).fails('H', Trial.NOT_RUN), most - 2);
        value(values().arguments(2).gives('B', 1).givesNumber('A', 6), 6);
    }

    private static void elseZero() {
        Trial.sentence("else 0");
        value(new Trial(), 0);
        value(values().arguments(2), 0);
        value(values().arguments(2).gives('B', 1), 0);
        value(values().arguments(2).givesNumber('A', 6).gives('B', 1), 0);
        value(values().arguments(2).givesNumber('A', 6).gives('C', 2), 0);
        value(values().arguments(2).givesNumber('A', 6).arguments(0).fails('D', Trial.DIVIDED), 0);
    }
}
