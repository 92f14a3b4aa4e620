/** Promise 6: argument sets one of the four arguments of what is run. */
public final class Promise06ArgumentTest {
    public static void main(String[] args) {
        which();
        theyStay();
        wrap();
        Trial.end();
    }

    private static void which() {
        SoleArrays x = new SoleArrays();
        int[] none = {-1, 4, 5, Integer.MIN_VALUE, Integer.MAX_VALUE};
        for (int k : none) {
            Trial.due("argument " + k, x.argument(k, 7) ? 1 : 0, 0);
        }
        new Trial().good("A(d0,c0,b0,a0)0=((((a*10)+b)*100)+((c*10)+d))", 1).arguments(4, 3, 2, 1).givesNumber('A', 1234);
        new Trial().good("A(n0)0=n", 1).arguments(8, 9, 9, 9).givesNumber('A', 8);
    }

    private static void theyStay() {
        Trial t = new Trial().arguments(5, 6).good("A(m0,n0)0=(m-n)", 1).givesNumber('A', -1).givesNumber('A', -1);
        t.x.clear();
        t.good("A(m0,n0)0=(m*n)", 1).givesNumber('A', 30).arguments(7).givesNumber('A', 42);
        t.x.argument(4, 100);
        t.givesNumber('A', 42);
    }

    private static void wrap() {
        long[] numbers = {Long.MIN_VALUE, Long.MAX_VALUE, 0, -1};
        for (long n : numbers) {
            new Trial().good("A(n0)0=n", 1).arguments(n).givesNumber('A', n);
        }
    }
}
