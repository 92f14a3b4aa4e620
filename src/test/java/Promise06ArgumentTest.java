/** Promise 6: argument sets one of the four arguments of what is run. */
public final class Promise06ArgumentTest {
    public static void main(String[] args) {
        zeroToThree();
        noArgument();
        ofWhatIsRun();
        anyLong();
        Trial.end();
    }

    private static Trial digits() {
        return new Trial().good("A(d0,c0,b0,a0)0=((((a*10)+b)*100)+((c*10)+d))", 1);
    }

    private static void zeroToThree() {
        Trial.sentence("Argument k, 0 .. 3");
        digits().arguments(4, 3, 2, 1).givesNumber('A', 1234);
        long[] due = {7, 70, 700, 7000};
        for (int k = 0; k < 4; k++) {
            Trial t = digits();
            Trial.due("argument " + k, t.x.argument(k, 7), true);
            t.givesNumber('A', due[k]);
        }
    }

    private static void noArgument() {
        Trial.sentence("false if it is none");
        int[] none = {-1, 4, 5, -4, Integer.MIN_VALUE, Integer.MAX_VALUE};
        for (int k : none) {
            Trial t = digits().arguments(4, 3, 2, 1);
            Trial.due("argument " + k, t.x.argument(k, 7), false);
            t.givesNumber('A', 1234);
        }
    }

    private static void ofWhatIsRun() {
        Trial.sentence("of what is run");
        Trial t = new Trial().arguments(5, 6).good("A(m0,n0)0=(m-n)", 1).givesNumber('A', -1).givesNumber('A', -1);
        t.x.clear();
        t.good("A(m0,n0)0=(m*n)", 1).givesNumber('A', 30).arguments(7).givesNumber('A', 42)
                .arguments(8).arguments(9).givesNumber('A', 54);
        // A function changes none, and a result stays when they are changed.
        new Trial().good("A(n0)0=&m=(n+1);m", 1).arguments(4).givesNumber('A', 5).givesNumber('A', 5);
        Trial stays = new Trial().good("A(n0)0=n", 1).arguments(4).givesNumber('A', 4).arguments(5);
        Trial.due("value", stays.x.value(), 4);
    }

    private static void anyLong() {
        Trial.sentence("Argument k", "a number is a long");
        long[] numbers = {Long.MIN_VALUE, Long.MIN_VALUE + 1, -1, 0, 1, 1L << 32, Long.MAX_VALUE};
        for (long n : numbers) {
            new Trial().good("A(n0)0=n", 1).arguments(n).givesNumber('A', n);
        }
    }
}
