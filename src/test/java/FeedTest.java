/** Promises 1, 2, 5: a new object, feeding THE TEXT, counting. */
public final class FeedTest {
    public static void main(String[] args) {
        Due due = new Due();
        newObject(due);
        bytes(due);
        full(due);
        counts(due);
        due.end();
    }

    private static void newObject(Due due) {
        due.fresh();
        for (int what = 0; what <= 4; what++) {
            due.is("count of a new object", due.x.count(what), 0);
        }
        due.is("place", due.x.place(), 0);
        due.is("step", due.x.step(), 0);
        due.is("out", due.x.out(0), -1);
        due.is("thing", due.x.thing(0, -1), -1);
        due.is("statement", due.x.statement(0, 0), -1);
        due.is("find", due.x.find(), -2);
        due.is("read", due.x.read(), 0);
    }

    private static void bytes(Due due) {
        due.fresh();
        due.is("feed(0, 0)", due.x.feed(0, 0), 0);
        due.is("feed of bytes among zeros", due.x.feed(0x2400000000000063L, 0x0000200000000000L), 3);
        due.is("feed of the rest", due.x.feed(0x6120242e00000000L, 0), 7);
        due.is("count(2)", due.x.count(2), 7);
        due.is("read of '$c a $.'", due.x.read(), 0);
        due.is("place", due.x.place(), 7);
        due.is("name", due.x.name(0, 0, 0), 'a');
        due.is("count(2) behind read", due.x.count(2), 0);
        due.is("feed of high bytes", due.x.feed(-1L, -1L), 16);
        due.is("their fault", due.x.read(), -1);
    }

    private static void full(Due due) {
        due.fresh();
        for (int i = 1; i <= 511; i++) {
            due.is("feed of blanks", due.x.feed(0x2020202020202020L, 0x2020202020202020L), 16 * i);
        }
        due.is("feed of 15", due.x.feed(0x2020202020202020L, 0x2020202020202000L), 8191);
        due.is("two too many", due.x.feed(0x2000000000000000L, 0x20L), -3);
        due.is("count(2), none came", due.x.count(2), 8191);
        due.is("the last one", due.x.feed(0, 0x20L), 8192);
        due.is("one too many", due.x.feed(0, 0x20L), -3);
        due.is("none", due.x.feed(0, 0), 8192);
        due.is("read of blanks", due.x.read(), 0);
        due.is("place", due.x.place(), 8192);
    }

    private static void counts(Due due) {
        due.book("$c t u $. $v a $. f $f t a $. ${ x $a u a $. $} p $p t a $= f $.", 3);
        due.is("symbols", due.x.count(0), 3);
        due.is("statements", due.x.count(1), 3);
        due.is("text", due.x.count(2), 0);
        due.is("print", due.x.print(0), 11);
        due.is("out", due.x.count(3), 11);
        due.is("trace", due.x.trace(2, 0), 1);
        due.is("stack", due.x.count(4), 1);
        due.is("count(5)", due.x.count(5), -1);
        due.is("count(-1)", due.x.count(-1), -1);
        due.feed("x");
        due.is("text again", due.x.count(2), 1);
        due.is("check leaves the trace", due.x.check(2), 0);
        due.is("stack", due.x.count(4), 1);
        due.is("a faulty read", due.x.read(), -2);
        due.is("the book stays", due.x.count(1), 3);
        due.is("symbols stay", due.x.count(0), 3);
        due.is("the OUT is gone", due.x.count(3), 0);
        due.is("out(0)", due.x.out(0), -1);
        due.is("the trace is gone", due.x.count(4), 0);
        due.is("thing", due.x.thing(0, -1), -1);
        due.is("step is gone", due.x.step(), 0);
        due.is("place", due.x.place(), 1);
    }
}
