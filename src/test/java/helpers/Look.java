/** All that the small calls tell of an object, as one number: whether a call has changed anything. */
final class Look {
    private Look() {
    }

    static long at(GooseBorder x) {
        long all = x.fault(0) * 1000L + x.fault(1);
        for (int n = 0; n < 2; n++) {
            for (int what = 0; what < 90; what++) {
                all = all * 31 + x.border(n, what);
            }
            for (int k = -1; k < 24; k++) {
                for (int what = 0; what < 4; what++) {
                    all = all * 31 + x.deed(n, k, what);
                    all = all * 31 + x.term(n, k, what);
                    all = all * 31 + x.seen(n, k, what);
                }
            }
        }
        for (int sort = 0; sort < 4; sort++) {
            all = all * 31 + x.count(sort);
        }
        return all * 31 + length(x);
    }

    /** What the calls find out that play nights, try marches and sets, of the first of each sort. */
    static long deepAt(GooseBorder x) {
        long all = x.stop(0, 0) * 31L + x.fits(0, 0);
        all = all * 31 + x.lacks(0, 0, 0);
        all = all * 31 + x.rest(0, 0, -1);
        all = all * 31 + x.thrift(0);
        all = all * 31 + x.shift(0, 0, true);
        all = all * 31 + x.close(0, true);
        for (int n = -1; n <= 30; n++) {
            all = all * 31 + x.state(0, 0, x.stop(0, 0), n);
            all = all * 31 + x.even(0, n);
            all = all * 31 + x.richest(0, 0, n);
            all = all * 31 + x.told(0, 0, n);
            all = all * 31 + x.pays(0, n);
            all = all * 31 + x.lame(0, n, -1);
            all = all * 31 + x.lame(0, 0, n);
            all = all * 31 + x.tar(0, n, 40);
            all = all * 31 + x.backs(0, n, 9, false);
            all = all * 31 + x.span(0, 0, n, true);
            all = all * 31 + x.split(0, 0, n, false);
            all = all * 31 + x.alike(0, 0, n);
            all = all * 31 + x.near(0, 0, n);
            all = all * 31 + x.who(0, 0, 0, n);
            all = all * 31 + x.two(0, 0, 0, n);
            all = all * 31 + x.honest(0, 0, n);
            all = all * 31 + x.drawn(0, 5, 3, n);
        }
        return all;
    }

    /** How many bytes the tape has: end() with as many leaves it as it is. */
    static int length(GooseBorder x) {
        int length = 600;
        while (length > 0 && x.end(length) < 0) {
            length--;
        }
        return length;
    }
}
