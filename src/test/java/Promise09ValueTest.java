/** Promise 9: value is the result, if it is a number, else 0. */
public final class Promise09ValueTest {
    public static void main(String[] args) {
        Trial t = new Trial().good("A(n0)0=(n*3)", 1).good("B(n0)1=&a=@1;&b=@n;~a;b", 2)
                .good("C(n0)2=&a=@1;&b=%n,n;~a;b", 3).good("D(n0)0=(1/n)", 4);
        Trial.due("value before a run", t.x.value(), 0);
        t.arguments(-3).givesNumber('A', -9);
        t.arguments(Long.MAX_VALUE).givesNumber('A', Long.MAX_VALUE - 2);
        t.fails('H', Trial.NOT_RUN);
        Trial.due("value after a run of nothing", t.x.value(), Long.MAX_VALUE - 2);
        t.arguments(2).gives('B', 1);
        Trial.due("value of a row", t.x.value(), 0);
        t.gives('C', 2);
        Trial.due("value of a table", t.x.value(), 0);
        t.givesNumber('A', 6).arguments(0).fails('D', Trial.DIVIDED);
        Trial.due("value after a failed run", t.x.value(), 0);
        Trial.end();
    }
}
