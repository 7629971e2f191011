/** Promises 12 and 13, with 5 and 11: a proof run up to a step, and what is on the stack then. */
public final class TraceTest {
    private static final String TEXT = "$c t o $. $v a b $. ta $f t a $. tb $f t b $. x $a t o a $. y $a t a b $. "
        + "em $a t $. p4 $p t o a o a b $= ta x ta x tb y y $. c5 $p t o a o a b $= ( x y ) ACZEBDD $. "
        + "w6 $p t a $= ta y $. o7 $p t a $= ta ? $. r8 $p t a $= ta zz $. n9 $p t a $= $. l10 $p t a $= ( ) A! $. "
        + "d11 $p t a $= ta tb $. e12 $p t a $= em em $.";

    public static void main(String[] args) {
        Due due = new Due();
        due.book(TEXT, 14);
        whole(due, 5);
        whole(due, 6);
        faults(due);
        due.end();
    }

    private static String thing(Due due, int d) {
        StringBuilder all = new StringBuilder();
        int size = due.x.thing(d, -1);
        for (int i = 0; i < size; i++) {
            all.append(due.name(0, due.x.thing(d, i))).append(' ');
        }
        due.is("thing(" + d + ", end)", due.x.thing(d, size), -1);
        due.is("thing(" + d + ", -2)", due.x.thing(d, -2), -1);
        return all.toString();
    }

    private static void stack(Due due, int k, int n, int steps, String... things) {
        String call = "trace(" + k + ", " + n + ")";
        due.is(call, due.x.trace(k, n), things.length);
        due.is("step() behind " + call, due.x.step(), steps);
        due.is("count(4) behind " + call, due.x.count(4), things.length);
        for (int d = 0; d < things.length; d++) {
            due.is("thing " + d + " behind " + call, thing(due, d), things[d]);
        }
        due.is("thing(end) behind " + call, due.x.thing(things.length, 0), -1);
        due.is("thing(end, -1) behind " + call, due.x.thing(things.length, -1), -1);
        due.is("thing(-1, 0) behind " + call, due.x.thing(-1, 0), -1);
    }

    private static void whole(Due due, int k) {
        String[][] all = {{"t a "}, {"t o a "}, {"t a ", "t o a "}, {"t o a ", "t o a "}, {"t b ", "t o a ", "t o a "},
            {"t o a b ", "t o a "}, {"t o a o a b "}};
        // In the compressed one the third and the fourth step are one, by its mark.
        boolean compressed = k == 6;
        int steps = compressed ? 6 : 7;
        for (int n = 0; n < steps; n++) {
            stack(due, k, n, steps, all[compressed && n >= 2 ? n + 1 : n]);
        }
        stack(due, k, 7, steps, all[6]);
        stack(due, k, Integer.MAX_VALUE, steps, all[6]);
        due.is("check", due.x.check(k), 0);
        due.is("step", due.x.step(), steps);
    }

    private static void gone(Due due, int k, int n, int answer, int step) {
        stack(due, 5, 4, 7, "t b ", "t o a ", "t o a ");
        String call = "trace(" + k + ", " + n + ")";
        due.is(call, due.x.trace(k, n), answer);
        due.is("step() behind " + call, due.x.step(), step);
        due.is("count(4) behind " + call, due.x.count(4), 0);
        due.is("thing(0, 0) behind " + call, due.x.thing(0, 0), -1);
        due.is("thing(0, -1) behind " + call, due.x.thing(0, -1), -1);
    }

    private static void faults(Due due) {
        gone(due, 5, -1, -1, 0);
        gone(due, 0, 0, -1, 0);
        gone(due, 2, 0, -1, 0);
        gone(due, 14, 0, -1, 0);
        gone(due, -1, 0, -1, 0);
        gone(due, 7, 1, -104, 1);
        gone(due, 7, 9, -104, 1);
        stack(due, 7, 0, 2, "t a ");
        gone(due, 8, 0, -9, 0);
        gone(due, 9, 0, -102, 1);
        gone(due, 10, 0, -101, 0);
        gone(due, 11, 0, -103, 1);
        // Faults of the end are none of the steps.
        stack(due, 12, 1, 2, "t b ", "t a ");
        stack(due, 13, 5, 2, "t ", "t ");
        // Other calls leave the trace and its step as they are, but for check().
        stack(due, 5, 1, 7, "t o a ");
        due.is("tell", due.x.tell(6, 1), 15);
        due.is("tell", due.x.tell(8, 1), -2);
        due.is("print", due.x.print(0), 11 + 1);
        due.is("step stays", due.x.step(), 7);
        due.is("check", due.x.check(7), -104);
        due.is("step of check", due.x.step(), 1);
        due.is("the stack stays", thing(due, 0), "t o a ");
        due.is("check of none", due.x.check(0), -1);
        due.is("step of none", due.x.step(), 0);
        due.is("the stack stays", due.x.count(4), 1);
        due.feed("em");
        due.is("find", due.x.find(), 4);
        due.is("the stack stays", due.x.count(4), 1);
        due.is("read", due.x.read(), 0);
        due.is("the stack is gone", due.x.count(4), 0);
        due.is("thing", due.x.thing(0, 0), -1);
    }
}
