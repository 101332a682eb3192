import java.util.Arrays;
import java.util.TreeSet;
import java.util.function.IntPredicate;
import java.util.stream.IntStream;

/**
 * Promise by promise: for every number of a call, all numbers near its bounds and some far ones; those outside are
 * answered by NONE or -2, as the promise says, those inside are not, and nothing is changed by either.
 */
public final class RefusedCallsTest {
    private static final Sentences S = new Sentences();
    private static final int NONE = GooseBorder.NONE;
    private static final int[] FAR = {Integer.MIN_VALUE, Integer.MIN_VALUE + 1, -65536, -10000, -1000, -256, 255, 256, 257, 599,
        600, 601, 998, 999, 1000, 1001, 9998, 9999, 10000, 10001, 65535, 65536, Integer.MAX_VALUE - 1, Integer.MAX_VALUE};
    private static final int[] NUMBERS = numbers();
    private static final int[][] SIZES = {{1, 1}, {2, 3}, {3, 6}, {5, 6}, {5, 8}};

    private static GooseBorder x;
    private static int paths;
    private static int geese;
    private static int held;
    private static final TreeSet<Integer> PROMISES = new TreeSet<>();

    private interface Call {
        long with(int[] a);
    }

    public static void main(String[] args) {
        for (int[] size : SIZES) {
            for (held = 0; held <= 2; held++) {
                paths = size[0];
                geese = size[1];
                tell();
                texts();
                lines();
                nights();
                marches();
                guards();
                dawns();
                flocks();
            }
        }
        for (int p = 5; p <= 39; p++) {
            S.says("Promise " + p, "");
            S.due("has refused calls here", PROMISES.contains(p), true);
        }
        S.finish();
    }

    /** As many of each sort as are to be there; all geese can go everywhere, and all paths are seen. */
    private static void tell() {
        x = new GooseBorder();
        StringBuilder dawn = new StringBuilder();
        for (int p = 0; p < paths; p++) {
            dawn.append("left ").append(p).append(" 0;");
        }
        for (int n = 0; n < held; n++) {
            Teller.tell(x, 0, NONE, "path 1 1 5;".repeat(paths) + "goose 1 1 0 0 9;".repeat(geese) + "cap 999;");
            Teller.tell(x, 1, NONE, "march 0 0;rain 10;thaw;march 0 0;frost;");
            Teller.tell(x, 2, NONE, "each 2;above 1 1;odd 3;");
            Teller.tell(x, 3, NONE, dawn.toString());
        }
        Teller.tell(x, 3, held > 0 ? 0 : NONE, "spoilt");
        Teller.feed(x, Teller.bytes("cap 17;"));
    }

    private static IntPredicate upTo(int low, int high) {
        return n -> n >= low && n <= high;
    }

    private static IntPredicate from(int low, int many) {
        return upTo(low, low + many - 1);
    }

    private static IntPredicate none() {
        return n -> false;
    }

    private static IntPredicate one() {
        return from(0, held);
    }

    private static IntPredicate goose() {
        return from(0, geese);
    }

    private static IntPredicate path() {
        return from(0, paths);
    }

    private static int[] at(int... good) {
        return good;
    }

    /** Each number of the call in turn takes all values, while the others are good ones. */
    private static void tryOut(int promise, String name, long refused, Call call, int[] good, IntPredicate... bounds) {
        PROMISES.add(promise);
        S.says("Promise " + promise, name);
        long before = Look.at(x);
        for (int i = 0; i < good.length; i++) {
            boolean others = true;
            for (int j = 0; j < good.length; j++) {
                others &= j == i || bounds[j].test(good[j]);
            }
            for (int n : NUMBERS) {
                int[] a = good.clone();
                a[i] = n;
                boolean want = others && bounds[i].test(n);
                S.due(Arrays.toString(a) + " is answered, " + size(), call.with(a) != refused, want);
            }
        }
        S.due("nothing is changed, " + size(), Look.at(x), before);
    }

    private static String size() {
        return paths + " paths, " + geese + " geese, " + held + " told";
    }

    private static int[] numbers() {
        return IntStream.concat(IntStream.rangeClosed(-40, 140), IntStream.of(FAR)).toArray();
    }

    private static void texts() {
        tryOut(5, "fault", NONE, a -> x.fault(a[0]), at(0), upTo(0, 1));
        tryOut(37, "count", -2, a -> x.count(a[0]), at(0), upTo(0, 3));
        tryOut(39, "again, none made", 0, a -> x.again(a[0]) ? 1 : 0, at(0), none());
        tryOut(38, "image", 0, a -> x.image(a[0]) ? 1 : 0, at(0), upTo(0, 2));
        tryOut(39, "again", 0, a -> x.again(a[0]) ? 1 : 0, at(0), upTo(0, 2));
        S.due("the tape's bytes stay", tapeTells(), 17);
    }

    /** What the tape tells, without taking it: by an image. */
    private static int tapeTells() {
        x.image(0);
        int number = x.text(0, held == 2 ? 1 : NONE);
        int cap = x.border(number, 2);
        x.again(0);
        return cap;
    }

    private static void lines() {
        IntPredicate whats = upTo(0, 2).or(from(10, paths)).or(from(20, paths)).or(from(30, paths)).or(from(40, geese))
            .or(from(50, geese)).or(from(60, geese)).or(from(70, geese)).or(from(80, geese));
        tryOut(6, "border", -2, a -> x.border(a[0], a[1]), at(0, 0), one(), whats);
        tryOut(7, "marks", NONE, a -> x.marks(a[0], a[1], a[2], false), at(0, 0, 0), one(), goose(), path());
        tryOut(7, "marks in frost", NONE, a -> x.marks(a[0], a[1], a[2], true), at(0, 0, 0), one(), goose(), path());
        tryOut(8, "deed", -2, a -> x.deed(a[0], a[1], a[2]), at(0, 0, 0), one(), upTo(-1, 4), upTo(0, 3));
        tryOut(8, "how many deeds", -2, a -> x.deed(a[0], NONE, a[1]), at(0, 0), one(), upTo(0, 0));
        tryOut(13, "term", -2, a -> x.term(a[0], a[1], a[2]), at(0, 0, 0), one(), upTo(-1, 2), upTo(0, 2));
        tryOut(13, "how many terms", -2, a -> x.term(a[0], NONE, a[1]), at(0, 0), one(), upTo(0, 0));
        tryOut(14, "pays", NONE, a -> x.pays(a[0], a[1]), at(0, 0), one(), upTo(0, 9999));
        tryOut(21, "seen", -2, a -> x.seen(a[0], a[1], a[2]), at(0, 0, 0), one(), upTo(-1, paths - 1), upTo(0, 1));
        tryOut(21, "how many seen", -2, a -> x.seen(a[0], NONE, a[1]), at(0, 0), one(), upTo(0, 0));
    }

    private static void nights() {
        tryOut(9, "stop", NONE, a -> x.stop(a[0], a[1]), at(0, 0), one(), one());
        tryOut(10, "goose", -2, a -> x.goose(a[0], a[1], a[2], a[3], a[4]), at(0, 0, 0, 0, 0), one(), one(), upTo(0, 3), goose(),
            upTo(0, 3));
        tryOut(11, "path", -2, a -> x.path(a[0], a[1], a[2], a[3], a[4]), at(0, 0, 0, 0, 0), one(), one(), upTo(0, 3), path(),
            upTo(0, 5));
        tryOut(12, "state", -2, a -> x.state(a[0], a[1], a[2], a[3]), at(0, 0, 0, 0), one(), one(), upTo(0, 3), upTo(0, 8));
        tryOut(35, "shift", NONE, a -> x.shift(a[0], a[1], false), at(0, 0), one(), one());
        tryOut(35, "shift's pay", NONE, a -> x.shift(a[0], a[1], true), at(0, 0), one(), one());
        tryOut(26, "drawn", NONE, a -> x.drawn(a[0], a[1], a[2], a[3]), at(0, 0, 1, 0), one(), n -> true, upTo(1, 20),
            upTo(0, 2).or(from(10, paths)).or(from(20, geese)));
    }

    private static void marches() {
        boolean few = geese <= 6;
        IntPredicate rows = upTo(0, 0).or(from(10, geese));
        tryOut(15, "even", NONE, a -> x.even(a[0], a[1]), at(0, 0), one(), few ? rows.or(from(20, paths)) : none());
        tryOut(16, "richest", NONE, a -> x.richest(a[0], a[1], a[2]), at(0, 0, 0), one(), one(), few ? rows : none());
        // boots spare these geese nothing
        tryOut(17, "tar", NONE, a -> x.tar(a[0], a[1], a[2]), at(0, 0, 9999), one(), path(), upTo(2 * geese, 9999));
        tryOut(18, "best", NONE, a -> x.lame(a[0], 9, a[1]), at(0, 0), one(), goose());
        tryOut(18, "lame", NONE, a -> x.lame(a[0], a[1], NONE), at(0, 0), one(), path());
        tryOut(18, "lame, goose 8", NONE, a -> x.lame(a[0], a[1], 8), at(0, 0), one(), path());
        IntPredicate closing = few && paths > 1 ? one() : none();
        tryOut(33, "close", NONE, a -> x.close(a[0], false), at(0), closing);
        tryOut(33, "close's difference", NONE, a -> x.close(a[0], true), at(0), closing);
    }

    private static void guards() {
        IntPredicate sets = from(0, 1 << paths);
        // nobody is paid at the end, so all sets are at rest
        tryOut(19, "rest", -2, a -> x.rest(a[0], a[1], a[2]), at(0, 0, 0), one(), one(), sets.or(upTo(NONE, NONE)));
        tryOut(19, "how many rest", -2, a -> x.rest(a[0], a[1], NONE), at(0, 0), one(), one());
        tryOut(20, "take", NONE, a -> x.take(a[0], a[1], a[2], a[3]), at(0, 0, 0, 0), one(), one(), sets, path());
        tryOut(29, "honest", NONE, a -> x.honest(a[0], a[1], a[2]), at(0, 0, 0), one(), one(), path());
    }

    private static void dawns() {
        tryOut(22, "fits", NONE, a -> x.fits(a[0], a[1]), at(0, 0), one(), one());
        tryOut(23, "told", -2, a -> x.told(a[0], a[1], a[2]), at(0, 0, 0), one(), one(), upTo(0, 3).or(from(10, geese)));
        tryOut(24, "lacks", NONE, a -> x.lacks(a[0], a[1], a[2]), at(0, 0, 0), one(), one(), one());
        // one march, by path 0, without which there were no tally
        tryOut(25, "who", NONE, a -> x.who(a[0], a[1], a[2], a[3]), at(0, 0, 0, 0), one(), one(), upTo(0, 0), upTo(0, 0));
        tryOut(34, "near", NONE, a -> x.near(a[0], a[1], a[2]), at(0, 0, 0), one(), one(), path());
    }

    private static void flocks() {
        tryOut(27, "alike", NONE, a -> x.alike(a[0], a[1], a[2]), at(0, 0, 1), one(), but(goose(), 1), but(goose(), 0));
        tryOut(28, "span", NONE, a -> x.span(a[0], a[1], a[2], false), at(0, 0, 0), one(), path(), upTo(0, geese));
        tryOut(28, "most span", NONE, a -> x.span(a[0], a[1], a[2], true), at(0, 0, 0), one(), path(), upTo(0, geese));
        tryOut(30, "split", NONE, a -> x.split(a[0], a[1], a[2], false), at(0, 0, 1), one(), but(path(), 1), but(path(), 0));
        tryOut(30, "split apart", NONE, a -> x.split(a[0], a[1], a[2], true), at(0, 0, 1), one(), but(path(), 1), but(path(), 0));
        tryOut(31, "two", NONE, a -> x.two(a[0], a[1], a[2], a[3]), at(0, 0, 0, 0), one(), goose(), one(), upTo(0, 2));
        tryOut(32, "backs", NONE, a -> x.backs(a[0], a[1], a[2], false), at(0, 0, 0), one(), path(), upTo(0, 9999));
        tryOut(32, "many backs", NONE, a -> x.backs(a[0], a[1], a[2], true), at(0, 0, 0), one(), path(), upTo(0, 9999));
        tryOut(36, "thrift", NONE, a -> x.thrift(a[0]), at(0), one());
    }

    private static IntPredicate but(IntPredicate bound, int other) {
        return n -> bound.test(n) && n != other;
    }
}
