import java.util.List;
import java.util.Random;

/** Random borders, nights, laws and dawns: every answer of the class against the model's. */
public final class ModelTest {
    private static final Check CHECK = new Check();
    private static GooseBorder x;
    private static Model.Border b;
    private static Model.Border other;
    private static List<Model.Line> night;
    private static List<Model.Line> law;
    private static List<Model.Line> dawn;
    private static String name;

    public static void main(String[] args) {
        for (int seed = 0; seed < 1500 && CHECK.wrongOnes() == 0; seed++) {
            Random r = new Random(seed);
            tell(r, seed);
            told();
            nights(r);
            guards(r);
            marches();
            flocks(r);
            dawns();
            draws(r);
        }
        CHECK.finish();
    }

    private static void tell(Random r, int seed) {
        int geese = r.nextInt(12) == 0 ? 7 + r.nextInt(2) : r.nextInt(6);
        String border = Texts.border(r, r.nextInt(6), geese);
        b = new Model.Border(Texts.lines(0, border));
        String second = Texts.border(r, r.nextInt(6), r.nextInt(9));
        other = new Model.Border(Texts.lines(0, second));
        String nightText = Texts.night(r, b, r.nextInt(25));
        String lawText = Texts.law(r);
        String dawnText = Texts.dawn(r, b);
        night = Texts.lines(1, nightText);
        law = Texts.lines(2, lawText);
        dawn = Texts.lines(3, dawnText);
        name = seed + ": " + border + " | " + second + " | " + nightText + " | " + lawText + " | " + dawnText + " : ";
        x = Teller.told(border, nightText, lawText, dawnText);
        due("second border", Teller.tell(x, 0, -1, second), 1);
    }

    private static void due(String call, long got, long want) {
        CHECK.due(name + call, got, want);
    }

    private static void told() {
        due("paths", x.border(0, 0), b.paths.size());
        due("geese", x.border(0, 1), b.geese.size());
        due("cap", x.border(0, 2), b.cap);
        for (int p = 0; p < b.paths.size(); p++) {
            due("miles", x.border(0, 10 + p), b.paths.get(p).miles());
            due("rate", x.border(0, 20 + p), b.paths.get(p).rate());
            due("pad", x.border(0, 30 + p), b.paths.get(p).pad());
        }
        for (int g = 0; g < b.geese.size(); g++) {
            Model.Goose goose = b.geese.get(g);
            due("left", x.border(0, 40 + g), goose.left());
            due("right", x.border(0, 50 + g), goose.right());
            due("boots", x.border(0, 60 + g), goose.boots());
            due("limp", x.border(0, 70 + g), goose.limp() ? 1 : 0);
            due("worth", x.border(0, 80 + g), goose.worth());
            for (int p = 0; p < b.paths.size(); p++) {
                int miles = b.paths.get(p).miles();
                due("marks", x.marks(0, g, p, false), b.marks(g, p));
                due("marks in frost", x.marks(0, g, p, true), goose.marks(miles, goose.boots(), true));
            }
        }
        lines(1, night);
        lines(2, law);
        for (int k = 0; k < dawn.size(); k++) {
            due("seen path", x.seen(0, k, 0), dawn.get(k).n(0));
            due("seen marks", x.seen(0, k, 1), dawn.get(k).n(1));
        }
        for (int marks : new int[] {0, 1, 7, 30, 59, 60, 333, 998, 999, 1000, 9999}) {
            due("pays " + marks, x.pays(0, marks), Model.pays(law, marks));
        }
    }

    private static void lines(int sort, List<Model.Line> lines) {
        due("lines", sort == 1 ? x.deed(0, -1, 0) : x.term(0, -1, 0), lines.size());
        for (int k = 0; k < lines.size(); k++) {
            Model.Line l = lines.get(k);
            int kind = List.of(Texts.WORDS[sort]).indexOf(l.word());
            for (int what = 0; what <= (sort == 1 ? 3 : 2); what++) {
                int want = what == 0 ? kind : what <= l.numbers().size() ? l.n(what - 1) : -1;
                due("line " + k + " " + what, sort == 1 ? x.deed(0, k, what) : x.term(0, k, what), want);
            }
        }
    }

    private static void nights(Random r) {
        int stop = Model.stop(b, night);
        due("stop", x.stop(0, 0), stop);
        for (int n : new int[] {-1, 0, r.nextInt(stop + 1), r.nextInt(stop + 1), stop, stop + 1}) {
            for (int what = -1; what < 10; what++) {
                for (int g = -1; g <= b.geese.size(); g++) {
                    due("goose " + n + " " + g + " " + what, x.goose(0, 0, n, g, what), Model.goose(b, night, n, g, what));
                }
                for (int p = -1; p <= b.paths.size(); p++) {
                    due("path " + n + " " + p + " " + what, x.path(0, 0, n, p, what), Model.path(b, night, n, p, what));
                }
                due("state " + n + " " + what, x.state(0, 0, n, what), Model.state(b, night, n, what));
            }
        }
        due("shift", x.shift(0, 0, false), Model.shift(b, night, false));
        due("shift's pay", x.shift(0, 0, true), Model.shift(b, night, true));
        due("lacks", x.lacks(0, 0, 0), Model.lacks(b, night, dawn));
    }

    private static void guards(Random r) {
        List<Integer> rest = Model.rest(b, night);
        due("rest", x.rest(0, 0, -1), rest.size());
        for (int k = 0; k <= rest.size(); k++) {
            due("rest " + k, x.rest(0, 0, k), k < rest.size() ? rest.get(k) : -2);
        }
        int stop = Model.stop(b, night);
        for (int p = 0; p < b.paths.size(); p++) {
            for (int set = 0; set < 1 << b.paths.size(); set++) {
                due("take " + set + " " + p, x.take(0, 0, set, p), Model.take(b, night, set, p));
            }
            int tally = Model.end(b, night).tally(p);
            Model.Path path = b.paths.get(p);
            due("honest " + p, x.honest(0, 0, p), path.pay(tally) - path.rate() * tally);
            due("who " + p, x.who(0, 0, p, tally), Model.who(b, night, p, tally));
            due("who 0 " + p, x.who(0, 0, p, 0), Model.who(b, night, p, 0));
            for (int k = 0; k < stop; k++) {
                int marks = Model.after(b, night, stop, k).tally(p);
                due("who " + p + " " + marks, x.who(0, 0, p, marks), Model.who(b, night, p, marks));
            }
        }
    }

    private static void marches() {
        boolean can = b.paths.size() > 0 && b.geese.size() <= 6;
        int[] even = can ? Model.even(b, -1) : null;
        int[] rich = can ? Model.richest(b, law) : null;
        due("even", x.even(0, 0), can ? Model.apart(b, even, Model.pathsBut(b, -1)) : -1);
        due("richest", x.richest(0, 0, 0), can ? Model.byLaw(b, law, rich) : -1);
        for (int g = 0; g < 8; g++) {
            boolean there = can && g < b.geese.size();
            due("even of goose " + g, x.even(0, 10 + g), there ? even[g] : -1);
            due("richest of goose " + g, x.richest(0, 0, 10 + g), there ? rich[g] : -1);
            due("best of goose " + g, x.lame(0, 9, g), g < b.geese.size() ? Model.best(b, g) : -1);
        }
        for (int p = 0; p < 5; p++) {
            boolean there = can && p < b.paths.size();
            int pay = there ? b.paths.get(p).pay(Model.tallyOf(b, even, p)) : -1;
            due("even of path " + p, x.even(0, 20 + p), pay);
            due("lame " + p, x.lame(0, p, -1), p < b.paths.size() ? Model.lame(b, p) : -1);
        }
        boolean closes = can && b.paths.size() > 1;
        due("close", x.close(0, false), closes ? Model.close(b, false) : -1);
        due("close's difference", x.close(0, true), closes ? Model.close(b, true) : -1);
    }

    private static void flocks(Random r) {
        int geese = b.geese.size();
        for (int p = 0; p < b.paths.size(); p++) {
            int all = b.marksOf(b.sets() - 1, p);
            for (int t = 0; t < 6; t++) {
                int limit = t == 0 ? 0 : t == 1 ? Math.min(9999, all * 4) : r.nextInt(all + 2);
                due("tar " + p + " " + limit, x.tar(0, p, limit), Model.tar(b, p, limit));
                int backs = Model.backs(b, p, limit);
                due("backs " + p + " " + limit, x.backs(0, p, limit, false), backs);
                due("many backs " + p + " " + limit, x.backs(0, p, limit, true), Integer.bitCount(backs));
            }
            for (int n = 0; n <= geese; n++) {
                due("span " + p + " " + n, x.span(0, p, n, false), Model.span(b, p, n, false));
                due("most span " + p + " " + n, x.span(0, p, n, true), Model.span(b, p, n, true));
            }
            for (int q = 0; q < b.paths.size(); q++) {
                due("split " + p + " " + q, x.split(0, p, q, false), p == q ? -1 : Model.split(b, p, q, false));
                due("split's " + p + " " + q, x.split(0, p, q, true), p == q ? -1 : Model.split(b, p, q, true));
            }
        }
        for (int g = 0; g < geese; g++) {
            for (int h = 0; h < geese; h++) {
                int alike = 0;
                for (int p = 0; p < b.paths.size(); p++) {
                    alike |= b.marks(g, p) == b.marks(h, p) ? 1 << p : 0;
                }
                due("alike " + g + " " + h, x.alike(0, g, h), g == h ? -1 : alike);
            }
            for (int what = -1; what < 4; what++) {
                due("two " + g + " " + what, x.two(0, g, 1, what), Model.two(b, g, other, what));
                due("two at home " + g + " " + what, x.two(0, g, 0, what), Model.two(b, g, b, what));
            }
        }
        due("thrift", x.thrift(0), Model.thrift(b));
        due("other thrift", x.thrift(1), other.geese.size() > 6 && other.paths.size() > 4 ? x.thrift(1) : Model.thrift(other));
    }

    private static void dawns() {
        if (b.geese.size() > 6) {
            return;
        }
        due("fits", x.fits(0, 0), Model.ways(b, dawn).size());
        for (int what = 0; what < 4; what++) {
            due("told " + what, x.told(0, 0, what), Model.told(b, dawn, what));
        }
        for (int g = 0; g <= b.geese.size(); g++) {
            due("told of goose " + g, x.told(0, 0, 10 + g), Model.told(b, dawn, 10 + g));
        }
        for (int k = 0; k < dawn.size(); k++) {
            int p = dawn.get(k).n(0);
            int want = p < b.paths.size() ? Model.near(b, p, dawn.get(k).n(1)) : -1;
            due("near " + k, x.near(0, 0, k), want);
        }
    }

    private static void draws(Random r) {
        for (int t = 0; t < 6; t++) {
            int seed = r.nextInt();
            int k = 1 + r.nextInt(20);
            for (int what = 0; what < 29; what++) {
                int want = b.paths.isEmpty() ? -1 : Model.drawn(b, seed, k, what);
                due("drawn " + seed + " " + k + " " + what, x.drawn(0, seed, k, what), want);
            }
        }
    }
}
