import java.util.ArrayList;
import java.util.HashSet;
import java.util.List;
import java.util.Set;

/**
 * The document once more, written apart from the class and by trying everything out: slow, plain, with objects
 * made wherever they are handy. Tests compare the two.
 */
final class Model {
    record Path(int miles, int rate, int pad) {
        int padded(int tally) {
            return tally + tally * pad / 10;
        }

        int pay(int tally) {
            return rate * padded(tally);
        }
    }

    record Goose(int left, int right, int boots, boolean limp, int worth) {
        /** Mile by mile. */
        int marks(int miles, int bootsLeft, boolean frost) {
            int sum = 0;
            for (int mile = 1; mile <= miles; mile++) {
                int here = mile <= bootsLeft ? (frost ? 0 : 2) : left + right;
                sum += limp ? here + here : here;
            }
            return sum;
        }

        Goose sound() {
            return new Goose(left, right, boots, false, worth);
        }
    }

    record Line(String word, List<Integer> numbers) {
        int n(int i) {
            return numbers.get(i);
        }
    }

    static final class Border {
        final List<Path> paths = new ArrayList<>();
        final List<Goose> geese = new ArrayList<>();
        int cap = -1;

        Border(List<Line> lines) {
            for (Line l : lines) {
                switch (l.word()) {
                    case "path" -> paths.add(new Path(l.n(0), l.n(1), l.n(2)));
                    case "goose" -> geese.add(new Goose(l.n(0), l.n(1), l.n(2), l.n(3) == 1, l.n(4)));
                    default -> cap = l.n(0);
                }
            }
        }

        int marks(int g, int p) {
            return geese.get(g).marks(paths.get(p).miles(), geese.get(g).boots(), false);
        }

        int marksOf(int set, int p) {
            int sum = 0;
            for (int g = 0; g < geese.size(); g++) {
                sum += (set >> g & 1) * marks(g, p);
            }
            return sum;
        }

        int sets() {
            return 1 << geese.size();
        }
    }

    /** What lies where, with every going as an entry of a log. */
    static final class State {
        final Border border;
        final int[] where;
        final int[] boots;
        final int[] trail;
        final int[] last;
        final int[] marks;
        final int[] exports;
        final int[] washed;
        final Set<Integer> recast = new HashSet<>();
        final List<int[]> log = new ArrayList<>();
        boolean frost;

        State(Border border) {
            this.border = border;
            int geese = border.geese.size();
            int paths = border.paths.size();
            where = new int[geese];
            boots = new int[geese];
            trail = new int[geese];
            last = new int[geese];
            marks = new int[paths];
            exports = new int[paths];
            washed = new int[paths];
            for (int g = 0; g < geese; g++) {
                boots[g] = border.geese.get(g).boots();
                last[g] = -1;
            }
        }

        boolean goose(int g, int place) {
            return g < border.geese.size() && where[g] == place;
        }

        boolean path(int p) {
            return p < border.paths.size();
        }

        int goes(int g, int p) {
            int miles = border.paths.get(p).miles();
            int left = border.geese.get(g).marks(miles, boots[g], frost);
            for (int mile = 0; mile < miles && boots[g] > 0; mile++) {
                boots[g]--;
            }
            trail[g] += left;
            last[g] = p;
            log.add(new int[] {g, p});
            return left;
        }

        /** False if the deed can't be; then nothing has changed. */
        boolean deed(Line l, boolean marked) {
            switch (l.word()) {
                case "march", "back" -> {
                    if (!goose(l.n(0), 0) || !path(l.n(1))) {
                        return false;
                    }
                    int left = goes(l.n(0), l.n(1));
                    if (l.word().equals("back")) {
                        exports[l.n(1)] += left;
                    } else if (marked) {
                        marks[l.n(1)] += left;
                    }
                    where[l.n(0)] = 1;
                }
                case "home" -> {
                    if (!goose(l.n(0), 1) || !path(l.n(1))) {
                        return false;
                    }
                    exports[l.n(1)] += goes(l.n(0), l.n(1));
                    where[l.n(0)] = 0;
                }
                case "carry" -> {
                    if (!goose(l.n(0), 0) || !goose(l.n(1), 0) || !path(l.n(2))) {
                        return false;
                    }
                    marks[l.n(2)] += goes(l.n(0), l.n(2));
                    where[l.n(0)] = 1;
                    where[l.n(1)] = 1;
                    last[l.n(1)] = l.n(2);
                }
                case "recast" -> {
                    if (!goose(l.n(0), 0) && !goose(l.n(0), 1)) {
                        return false;
                    }
                    boots[l.n(0)] = l.n(1);
                    recast.add(l.n(0));
                }
                case "rain" -> rain(l.n(0));
                case "frost" -> frost = true;
                case "thaw" -> frost = false;
                default -> {
                    return path(l.n(0)) && fox(l.n(0));
                }
            }
            return true;
        }

        void rain(int tenths) {
            for (int p = 0; p < marks.length; p++) {
                int a = marks[p] * tenths / 10;
                int b = exports[p] * tenths / 10;
                marks[p] -= a;
                exports[p] -= b;
                washed[p] += a + b;
            }
        }

        boolean fox(int p) {
            for (int i = log.size() - 1; i >= 0; i--) {
                int[] gone = log.get(i);
                if (gone[1] == p && where[gone[0]] != 2) {
                    where[gone[0]] = 2;
                    return true;
                }
            }
            return false;
        }

        int tally(int p) {
            return marks[p] > exports[p] ? marks[p] - exports[p] : 0;
        }

        int allPay() {
            int sum = 0;
            for (int p = 0; p < marks.length; p++) {
                sum += border.paths.get(p).pay(tally(p));
            }
            return sum;
        }
    }

    static int stop(Border b, List<Line> night) {
        State s = new State(b);
        for (int k = 0; k < night.size(); k++) {
            if (!s.deed(night.get(k), true)) {
                return k;
            }
        }
        return night.size();
    }

    static State after(Border b, List<Line> night, int n, int unmarked) {
        State s = new State(b);
        for (int k = 0; k < n; k++) {
            s.deed(night.get(k), k != unmarked);
        }
        return s;
    }

    static State end(Border b, List<Line> night) {
        return after(b, night, stop(b, night), -1);
    }

    static int goose(Border b, List<Line> night, int n, int g, int what) {
        if (n < 0 || n > stop(b, night) || g < 0 || g >= b.geese.size()) {
            return -2;
        }
        State s = after(b, night, n, -1);
        return switch (what) {
            case 0 -> s.where[g];
            case 1 -> s.boots[g];
            case 2 -> s.trail[g];
            case 3 -> s.last[g];
            default -> -2;
        };
    }

    static int path(Border b, List<Line> night, int n, int p, int what) {
        if (n < 0 || n > stop(b, night) || p < 0 || p >= b.paths.size()) {
            return -2;
        }
        State s = after(b, night, n, -1);
        Path path = b.paths.get(p);
        return switch (what) {
            case 0 -> s.marks[p];
            case 1 -> s.exports[p];
            case 2 -> s.tally(p);
            case 3 -> path.padded(s.tally(p));
            case 4 -> path.pay(s.tally(p));
            case 5 -> s.washed[p];
            default -> -2;
        };
    }

    static int state(Border b, List<Line> night, int n, int what) {
        if (n < 0 || n > stop(b, night) || what < 0 || what > 8) {
            return -2;
        }
        State s = after(b, night, n, -1);
        if (what == 7) {
            return s.allPay();
        }
        if (what == 8) {
            return s.frost ? 1 : 0;
        }
        int answer = 0;
        for (int g = 0; g < b.geese.size(); g++) {
            if (what < 3 && s.where[g] == what) {
                answer += 1 << g;
            }
            if (what >= 3 && what < 6 && s.where[g] == what - 3) {
                answer += b.geese.get(g).worth();
            }
            if (what == 6 && s.boots[g] == 0 && (b.geese.get(g).boots() > 0 || s.recast.contains(g))) {
                answer += 1 << g;
            }
        }
        return answer;
    }

    static int pays(List<Line> law, int marks) {
        int sum = 0;
        for (Line l : law) {
            switch (l.word()) {
                case "each" -> sum += l.n(0) * marks;
                case "above" -> sum += marks > l.n(0) ? l.n(1) : 0;
                case "below" -> sum += marks < l.n(0) ? l.n(1) : 0;
                case "odd" -> sum += (marks & 1) * l.n(0);
                default -> sum = sum > l.n(0) ? l.n(0) : sum;
            }
        }
        return sum;
    }

    /** All rows of paths in their order. */
    static List<int[]> rows(int geese, List<Integer> paths) {
        List<int[]> all = new ArrayList<>();
        all.add(new int[0]);
        for (int g = 0; g < geese; g++) {
            List<int[]> longer = new ArrayList<>();
            for (int[] row : all) {
                for (int p : paths) {
                    int[] next = java.util.Arrays.copyOf(row, g + 1);
                    next[g] = p;
                    longer.add(next);
                }
            }
            all = longer;
        }
        return all;
    }

    static List<Integer> pathsBut(Border b, int without) {
        List<Integer> paths = new ArrayList<>();
        for (int p = 0; p < b.paths.size(); p++) {
            if (p != without) {
                paths.add(p);
            }
        }
        return paths;
    }

    static int tallyOf(Border b, int[] row, int p) {
        int sum = 0;
        for (int g = 0; g < row.length; g++) {
            sum += row[g] == p ? b.marks(g, p) : 0;
        }
        return sum;
    }

    static int apart(Border b, int[] row, List<Integer> paths) {
        int most = Integer.MIN_VALUE;
        int least = Integer.MAX_VALUE;
        for (int p : paths) {
            int pay = b.paths.get(p).pay(tallyOf(b, row, p));
            most = Math.max(most, pay);
            least = Math.min(least, pay);
        }
        return most - least;
    }

    static int[] even(Border b, int without) {
        List<Integer> paths = pathsBut(b, without);
        int[] best = null;
        for (int[] row : rows(b.geese.size(), paths)) {
            if (best == null || apart(b, row, paths) < apart(b, best, paths)) {
                best = row;
            }
        }
        return best;
    }

    static int byLaw(Border b, List<Line> law, int[] row) {
        int sum = 0;
        for (int p = 0; p < b.paths.size(); p++) {
            sum += pays(law, b.paths.get(p).padded(tallyOf(b, row, p)));
        }
        return sum;
    }

    static int[] richest(Border b, List<Line> law) {
        int[] best = null;
        int most = 0;
        for (int[] row : rows(b.geese.size(), pathsBut(b, -1))) {
            int here = byLaw(b, law, row);
            if (best == null || here > most) {
                best = row;
                most = here;
            }
        }
        return best;
    }

    static int close(Border b, boolean apart) {
        int best = -1;
        int least = 0;
        for (int p = 0; p < b.paths.size(); p++) {
            int here = apart(b, even(b, p), pathsBut(b, p));
            if (best < 0 || here < least) {
                best = p;
                least = here;
            }
        }
        return apart ? least : best;
    }

    /** The least tally by so many booted miles of the first geese, goose by goose. */
    static int tar(Border b, int p, int limit) {
        int miles = b.paths.get(p).miles();
        int[] least = {0};
        for (Goose goose : b.geese) {
            int[] next = new int[least.length + miles];
            java.util.Arrays.fill(next, Integer.MAX_VALUE / 2);
            for (int used = 0; used < least.length; used++) {
                for (int booted = 0; booted <= miles; booted++) {
                    int tally = least[used] + goose.marks(miles, booted, false);
                    next[used + booted] = Math.min(next[used + booted], tally);
                }
            }
            least = next;
        }
        for (int used = 0; used < least.length; used++) {
            if (least[used] <= limit) {
                return used;
            }
        }
        return -1;
    }

    static int lame(Border b, int p) {
        int with = 0;
        int without = 0;
        Path path = b.paths.get(p);
        for (Goose goose : b.geese) {
            with += goose.marks(path.miles(), goose.boots(), false);
            without += goose.sound().marks(path.miles(), goose.boots(), false);
        }
        return path.pay(with) - path.pay(without);
    }

    static int best(Border b, int g) {
        int best = -1;
        for (int p = 0; p < b.paths.size(); p++) {
            if (best < 0 || b.paths.get(p).pay(b.marks(g, p)) > b.paths.get(best).pay(b.marks(g, best))) {
                best = p;
            }
        }
        return best;
    }

    static int take(Border b, List<Line> night, int set, int p) {
        State s = end(b, night);
        int all = 0;
        int[] theirs = new int[b.paths.size()];
        for (int q = 0; q < theirs.length; q++) {
            Path path = b.paths.get(q);
            theirs[q] = (set >> q & 1) == 1 ? path.pay(s.tally(q)) : path.rate() * s.tally(q);
            all += theirs[q];
        }
        boolean above = b.cap >= 0 && all > b.cap;
        return above && (set >> p & 1) == 1 ? 0 : theirs[p];
    }

    static List<Integer> rest(Border b, List<Line> night) {
        List<Integer> sets = new ArrayList<>();
        for (int set = 0; set < 1 << b.paths.size(); set++) {
            boolean still = true;
            for (int p = 0; p < b.paths.size(); p++) {
                still &= take(b, night, set, p) >= take(b, night, set ^ 1 << p, p);
            }
            if (still) {
                sets.add(set);
            }
        }
        return sets;
    }

    /** Every way by which a dawn fits: of each goose its path, -1 if it stays. */
    static List<int[]> ways(Border b, List<Line> dawn) {
        List<Integer> choices = new ArrayList<>();
        choices.add(-1);
        for (Line l : dawn) {
            if (l.n(0) < b.paths.size()) {
                choices.add(l.n(0));
            }
        }
        List<int[]> fitting = new ArrayList<>();
        for (int[] row : rows(b.geese.size(), choices)) {
            boolean fits = true;
            for (Line l : dawn) {
                int sum = l.n(0) < b.paths.size() ? tallyOf(b, row, l.n(0)) : 0;
                fits &= sum == l.n(1);
            }
            if (fits) {
                fitting.add(row);
            }
        }
        return fitting;
    }

    static int told(Border b, List<Line> dawn, int what) {
        if (what == 3) {
            return toe(b, dawn);
        }
        List<int[]> ways = ways(b, dawn);
        if (ways.isEmpty() || what < 0 || what > 2 && (what < 10 || what >= 10 + b.geese.size())) {
            return -2;
        }
        int fewest = 99;
        int most = 0;
        int sure = b.sets() - 1;
        int by = 0;
        for (int[] way : ways) {
            int gone = 0;
            for (int g = 0; g < way.length; g++) {
                gone |= way[g] >= 0 ? 1 << g : 0;
                by |= what == 10 + g && way[g] >= 0 ? 1 << way[g] : 0;
            }
            fewest = Math.min(fewest, Integer.bitCount(gone));
            most = Math.max(most, Integer.bitCount(gone));
            sure &= gone;
        }
        return what == 0 ? fewest : what == 1 ? most : what == 2 ? sure : by;
    }

    static int toe(Border b, List<Line> dawn) {
        for (int g = 0; g < b.geese.size(); g++) {
            for (Line l : dawn) {
                if (l.n(0) < b.paths.size() && b.marks(g, l.n(0)) == l.n(1)) {
                    return g;
                }
            }
        }
        return -1;
    }

    static int lacks(Border b, List<Line> night, List<Line> dawn) {
        State s = end(b, night);
        int set = 0;
        for (int p = 0; p < b.paths.size(); p++) {
            int left = 0;
            for (Line l : dawn) {
                left += l.n(0) == p ? l.n(1) : 0;
            }
            set |= left < s.tally(p) ? 1 << p : 0;
        }
        return set;
    }

    static int who(Border b, List<Line> night, int p, int marks) {
        int stop = stop(b, night);
        for (int k = 0; k < stop; k++) {
            Line l = night.get(k);
            if (l.word().equals("march") && l.n(1) == p && after(b, night, stop, k).tally(p) == marks) {
                return k;
            }
        }
        return -1;
    }

    static int drawn(Border b, int seed, int nights, int what) {
        long x = seed & 0xffffffffL;
        int tallies = 0;
        int pay = 0;
        int children = 0;
        int paths = b.paths.size();
        int[] ofPath = new int[paths];
        int[] ofGoose = new int[b.geese.size()];
        for (int night = 0; night < nights; night++) {
            int[] marks = new int[paths];
            for (int g = 0; g < ofGoose.length; g++) {
                x = (x * 1103515245L + 12345L) & 0xffffffffL;
                int p = (int) ((x >> 16) % paths);
                marks[p] += b.marks(g, p);
                ofGoose[g] += b.marks(g, p);
            }
            x = (x * 1103515245L + 12345L) & 0xffffffffL;
            int rain = (int) ((x >> 16) % 11);
            for (int p = 0; p < paths; p++) {
                int tally = marks[p] - marks[p] * rain / 10;
                ofPath[p] += tally;
                tallies += tally;
                pay += b.paths.get(p).pay(tally);
                x = (x * 1103515245L + 12345L) & 0xffffffffL;
                children += (x >> 16) % 10 < b.paths.get(p).pad() ? 1 : 0;
            }
        }
        if (what >= 20) {
            return what - 20 < ofGoose.length ? ofGoose[what - 20] : -1;
        }
        if (what >= 10) {
            return what - 10 < paths ? ofPath[what - 10] : -1;
        }
        return what == 0 ? tallies : what == 1 ? pay : what == 2 ? children : -1;
    }

    static int span(Border b, int p, int n, boolean most) {
        List<Integer> all = new ArrayList<>();
        for (int g = 0; g < b.geese.size(); g++) {
            all.add(most ? -b.marks(g, p) : b.marks(g, p));
        }
        all.sort(null);
        int sum = 0;
        for (int i = 0; i < n; i++) {
            sum += Math.abs(all.get(i));
        }
        return sum;
    }

    static int split(Border b, int p, int q, boolean apart) {
        int best = 0;
        for (int set = 0; set < b.sets(); set++) {
            if (splitBy(b, p, q, set) < splitBy(b, p, q, best)) {
                best = set;
            }
        }
        return apart ? splitBy(b, p, q, best) : best;
    }

    private static int splitBy(Border b, int p, int q, int set) {
        return Math.abs(b.marksOf(set, p) - b.marksOf(b.sets() - 1 & ~set, q));
    }

    static int two(Border from, int g, Border to, int what) {
        Goose goose = from.geese.get(g);
        int most = -1;
        int[] couple = {-1, -1, -1};
        for (int p = 0; p < from.paths.size(); p++) {
            for (int q = 0; q < to.paths.size(); q++) {
                int all = from.paths.get(p).miles() + to.paths.get(q).miles();
                int first = from.marks(g, p);
                int second = goose.marks(all, goose.boots(), false) - first;
                int pay = from.paths.get(p).pay(first) + to.paths.get(q).pay(second);
                if (pay > most) {
                    most = pay;
                    couple = new int[] {p, q, pay};
                }
            }
        }
        return what < 0 || what > 2 ? -1 : couple[what];
    }

    static int backs(Border b, int p, int limit) {
        for (int many = 0; many <= b.geese.size(); many++) {
            for (int set = 0; set < b.sets(); set++) {
                int tally = Math.max(0, b.marksOf(b.sets() - 1 & ~set, p) - b.marksOf(set, p));
                if (Integer.bitCount(set) == many && tally <= limit) {
                    return set;
                }
            }
        }
        return -1;
    }

    static int near(Border b, int p, int seen) {
        int best = 0;
        for (int set = 0; set < b.sets(); set++) {
            if (Math.abs(b.marksOf(set, p) - seen) < Math.abs(b.marksOf(best, p) - seen)) {
                best = set;
            }
        }
        return best;
    }

    static int shift(Border b, List<Line> night, boolean pay) {
        int stop = stop(b, night);
        int most = end(b, night).allPay();
        int best = -1;
        for (int k = 0; k + 1 < stop; k++) {
            List<Line> other = new ArrayList<>(night);
            java.util.Collections.swap(other, k, k + 1);
            if (stop(b, other) >= stop && end(b, other).allPay() > most) {
                most = end(b, other).allPay();
                best = k;
            }
        }
        return best < 0 ? -1 : pay ? most : best;
    }

    static int thrift(Border b) {
        int paths = b.paths.size();
        for (int many = 0; many <= b.geese.size(); many++) {
            for (int set = 0; set < b.sets(); set++) {
                if (Integer.bitCount(set) == many && paysAll(b, set, 0, 0, paths)) {
                    return set;
                }
            }
        }
        return -1;
    }

    private static boolean paysAll(Border b, int set, int g, int paid, int paths) {
        if (g == b.geese.size()) {
            return paid == (1 << paths) - 1;
        }
        if ((set >> g & 1) == 0) {
            return paysAll(b, set, g + 1, paid, paths);
        }
        for (int p = 0; p < paths; p++) {
            int more = b.paths.get(p).pay(b.marks(g, p)) > 0 ? 1 << p : 0;
            if (paysAll(b, set, g + 1, paid | more, paths)) {
                return true;
            }
        }
        return false;
    }
}
