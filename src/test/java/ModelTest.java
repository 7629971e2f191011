import java.util.Map;
import java.util.TreeMap;

/** All promises: AxiomBook answers as PlainBook does, on books made by a seeded generator. */
public final class ModelTest {
    private static final Map<Integer, Integer> SEEN = new TreeMap<>();

    public static void main(String[] args) {
        int objects = args.length > 0 ? Integer.parseInt(args[0]) : 400;
        long seed = args.length > 1 ? Long.parseLong(args[1]) : 1;
        Due due = new Due();
        for (int n = 0; n < objects; n++) {
            BookMaker maker = new BookMaker(seed * 1000003 + n);
            due.fresh();
            PlainBook plain = new PlainBook();
            for (int round = 0; round < 4; round++) {
                String text = maker.make(5 + (n + 7 * round) % 40);
                if (text.length() > 8000) {
                    continue;
                }
                due.feed(text);
                plain.feed(text);
                String where = " behind " + text;
                int read = due.x.read();
                due.is("read()" + where, read, plain.read());
                due.is("place()" + where, due.x.place(), plain.place());
                SEEN.merge(Math.min(read, 0), 1, Integer::sum);
                same(due, plain, where);
            }
        }
        for (int n = 0; n < 40; n++) {
            bigProof(due, new BookMaker(seed * 77 + n).makeBig(n % 2 == 0 ? 2 : 5));
        }
        System.out.println("how often each answer of read() and check() came: " + SEEN);
        due.end();
    }

    private static void bigProof(Due due, String text) {
        PlainBook plain = new PlainBook();
        due.fresh();
        due.feed(text);
        plain.feed(text);
        int k = due.x.read() - 1;
        String where = " behind " + text;
        due.is("read()" + where, k + 1, plain.read());
        sameProof(due, plain, k, where);
        due.is("check() of a big proof" + where, due.x.check(k), plain.check(k));
        sameTelling(due, plain, k, where);
    }

    private static void same(Due due, PlainBook plain, String where) {
        AxiomBook x = due.x;
        for (int what = -1; what < 6; what++) {
            due.is("count(" + what + ")" + where, x.count(what), plain.count(what));
        }
        for (int s = 0; s <= plain.count(0); s++) {
            for (int i = -1; i < 4; i++) {
                due.is("name(0, " + s + ", " + i + ")" + where, x.name(0, s, i), plain.name(0, s, i));
            }
        }
        for (int k = -1; k <= plain.count(1); k++) {
            sameStatement(due, plain, k, where);
            if (k < 0 || plain.statement(k, 0) >= 2) {
                sameFrame(due, plain, k, where);
            }
            if (k < 0 || plain.statement(k, 0) == 3) {
                sameProof(due, plain, k, where);
                sameTrace(due, plain, k, where);
                sameTelling(due, plain, k, where);
            }
        }
    }

    private static void sameStatement(Due due, PlainBook plain, int k, String where) {
        for (int what = -1; what < 7; what++) {
            due.is("statement(" + k + ", " + what + ")" + where, due.x.statement(k, what), plain.statement(k, what));
        }
        for (int i = -1; i <= plain.statement(k, 1); i++) {
            due.is("symbol(" + k + ", " + i + ")" + where, due.x.symbol(k, i), plain.symbol(k, i));
        }
        String label = due.name(1, k);
        for (int i = -1; i <= label.length(); i++) {
            due.is("name(1, " + k + ", " + i + ")" + where, due.x.name(1, k, i), plain.name(1, k, i));
        }
        due.feed(label);
        plain.feed(label);
        due.is("find() of " + label + where, due.x.find(), plain.find());
        due.is("print(" + k + ")" + where, due.x.print(k), plain.print(k));
        sameOut(due, plain, "print(" + k + ")" + where);
    }

    private static void sameOut(Due due, PlainBook plain, String where) {
        due.is("count(3) behind " + where, due.x.count(3), plain.count(3));
        for (int i = -1; i <= plain.count(3); i++) {
            due.is("out(" + i + ") behind " + where, due.x.out(i), plain.out(i));
        }
    }

    private static void sameFrame(Due due, PlainBook plain, int k, String where) {
        for (int what = -1; what <= 3; what++) {
            for (int i = -1; i <= Math.max(plain.statement(k, 3), plain.statement(k, 4)); i++) {
                due.is("frame(" + k + ", " + what + ", " + i + ")" + where, due.x.frame(k, what, i),
                    plain.frame(k, what, i));
            }
        }
    }

    private static void sameProof(Due due, PlainBook plain, int k, String where) {
        int check = due.x.check(k);
        due.is("check(" + k + ")" + where, check, plain.check(k));
        due.is("step() of " + k + where, due.x.step(), plain.step());
        SEEN.merge(1000 + check, 1, Integer::sum);
        for (int i = -1; i < 12; i++) {
            due.is("rests(" + k + ", " + i + ")" + where, due.x.rests(k, i), plain.rests(k, i));
        }
    }

    private static void sameTrace(Due due, PlainBook plain, int k, String where) {
        int[] ends = {-1, 0, 1, 2, 3, 5, 8, 13, 21, 34, Integer.MAX_VALUE};
        for (int n : ends) {
            String call = "trace(" + k + ", " + n + ")" + where;
            due.is(call, due.x.trace(k, n), plain.trace(k, n));
            due.is("step() of " + call, due.x.step(), plain.step());
            due.is("count(4) of " + call, due.x.count(4), plain.count(4));
            for (int d = -1; d <= plain.count(4); d++) {
                for (int i = -2; i <= plain.thing(d, -1); i++) {
                    due.is("thing(" + d + ", " + i + ") of " + call, due.x.thing(d, i), plain.thing(d, i));
                }
            }
        }
    }

    private static void sameTelling(Due due, PlainBook plain, int k, String where) {
        for (int form = -1; form <= 2; form++) {
            String call = "tell(" + k + ", " + form + ")" + where;
            due.is(call, due.x.tell(k, form), plain.tell(k, form));
            due.is("step() of " + call, due.x.step(), plain.step());
            sameOut(due, plain, call);
        }
    }
}
