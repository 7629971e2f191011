/** Promises 10 to 13 and 17: each sentence that names a bound or a refused call. */
public final class ProvingEdgesTest {
    // 0 ta, 1 tb, 2 y, 3 k, 4 d, 5 h, 6 m, 7 wk, and from 8 on the proofs.
    private static final String HEAD = "$c t o w $. $v a b $. ta $f t a $. tb $f t b $. y $a t a b $. k $a t o $. "
        + "${ $d a b $. d $a t a o b $. $} ${ h $e t o $. m $a t $. $} wk $a w o $. ";
    private static final String TEXT = HEAD + "p8 $p t a $= ta $. p9 $p t a $= $. p10 $p t a $= ta zz $. "
        + "p11 $p t a $= ( ) A! $. p12 $p t a $= ta y $. p13 $p t a $= ta wk y $. p14 $p t a $= ta m $. "
        + "p15 $p t a $= ta ta d $. p16 $p t a $= ta ta $. p17 $p t a $= tb $. p18 $p t a $= " + Due.times(101, "ta ")
        + "$. p19 $p t a $= ta ? $. p20 $p t a a a a $= ( y ) AABZCB $.";
    // What check() and step() are of each from p8 on.
    private static final int[] CHECKS = {0, -101, -102, -103, -104, -105, -106, -107, -108, -109, -110, 1, 0};
    private static final int[] STEPS = {1, 0, 1, 1, 1, 2, 1, 2, 2, 1, 100, 0, 5};
    private static final int[] NO_PROOFS = {0, 2, 3, 5, 7, -1, 21, 200, Integer.MIN_VALUE, Integer.MAX_VALUE};

    public static void main(String[] args) {
        Due due = new Due();
        all(due);
        due.end();
    }

    static void all(Due due) {
        due.book(TEXT, 21);
        check(due);
        checkBad(due);
        stepBefore(due);
        stepOfCheck(due);
        stepOfTrace(due);
        stepOfOpenAndBad(due);
        stepIsOfTheLatest(due);
        traceFirstSteps(due);
        traceAllIfFewer(due);
        traceBad(due);
        traceOpen(due);
        traceFaultOfReading(due);
        traceFaultOfAStep(due);
        traceFaultBehind(due);
        traceHundred(due);
        thing(due);
        thingBad(due);
        thingOfTheLatest(due);
        restsByNumbers(due);
        restsThroughOthers(due);
        restsOnStatementsBefore(due);
        restsOfCompressed(due);
        restsWhateverTheProof(due);
        restsBad(due);
        restsNo(due);
    }

    /** Promise 10: "0 it is right; OPEN; -100 less the number of the fault as told (-101 for -1, .. -110 for -10)". */
    private static void check(Due due) {
        due.of("Promise 10: 0, OPEN or -100 less the number of the fault");
        for (int i = 0; i < CHECKS.length; i++) {
            due.is("check(" + (8 + i) + ")", due.x.check(8 + i), CHECKS[i]);
        }
    }

    /** Promise 10: "BAD: no $p." */
    private static void checkBad(Due due) {
        due.of("Promise 10: BAD: no $p");
        for (int k : NO_PROOFS) {
            due.is("check(" + k + ")", due.x.check(k), -1);
        }
        due.is("check of a $f", due.x.check(1), -1);
        due.is("check of an $a", due.x.check(4), -1);
        due.is("check of an $e", due.x.check(5), -1);
    }

    /** Promise 11: "0 .. before". */
    private static void stepBefore(Due due) {
        due.of("Promise 11: 0 before");
        Due other = new Due();
        due.is("step of a new object", other.x.step(), 0);
        other.feed(TEXT);
        due.is("read", other.x.read(), 21);
        due.is("step of a new book", other.x.step(), 0);
        due.is("tell is no check", other.x.tell(20, 1), 12);
        due.is("step", other.x.step(), 0);
        due.is("tell of a wrong one", other.x.tell(13, 1), -2);
        due.is("step", other.x.step(), 0);
    }

    /** Promise 11: "Where the latest check() .. found its fault; how many steps the proof has when it found none". */
    private static void stepOfCheck(Due due) {
        due.of("Promise 11: where check() found its fault, or how many steps there are");
        for (int i = 0; i < CHECKS.length; i++) {
            due.x.check(8 + i);
            due.is("step() behind check(" + (8 + i) + ")", due.x.step(), STEPS[i]);
        }
    }

    /** Promise 11: "Where the latest .. trace() found its fault; how many steps the proof has when it found none". */
    private static void stepOfTrace(Due due) {
        due.of("Promise 11: where trace() found its fault, or how many steps there are");
        int[] all = {1, 0, 1, 1, 1, 2, 1, 2, 2, 1, 100, 0, 5};
        int[] none = {1, 0, 1, 1, 2, 3, 2, 3, 2, 1, 101, 0, 5};
        for (int i = 0; i < all.length; i++) {
            due.x.trace(8 + i, 1000);
            due.is("step() behind trace(" + (8 + i) + ", 1000)", due.x.step(), all[i]);
            // The first step is right wherever a proof can be read, and so no fault is found.
            due.x.trace(8 + i, 0);
            due.is("step() behind trace(" + (8 + i) + ", 0)", due.x.step(), none[i]);
        }
    }

    /** Promise 11: "0 for OPEN, for BAD". */
    private static void stepOfOpenAndBad(Due due) {
        due.of("Promise 11: 0 for OPEN, for BAD");
        for (int k : NO_PROOFS) {
            due.is("check(20)", due.x.check(20), 0);
            due.is("step()", due.x.step(), 5);
            due.is("check(" + k + ")", due.x.check(k), -1);
            due.is("step()", due.x.step(), 0);
            due.is("check(13)", due.x.check(13), -105);
            due.is("step()", due.x.step(), 2);
            due.is("trace(" + k + ", 0)", due.x.trace(k, 0), -1);
            due.is("step()", due.x.step(), 0);
        }
        due.x.check(20);
        due.is("trace(20, -1)", due.x.trace(20, -1), -1);
        due.is("step()", due.x.step(), 0);
        due.x.check(20);
        due.is("check(19)", due.x.check(19), 1);
        due.is("step()", due.x.step(), 0);
        due.x.check(20);
        due.is("trace(19, 0)", due.x.trace(19, 0), -9);
        due.is("step()", due.x.step(), 0);
    }

    /** Promise 11: "the latest check() or trace()": other calls leave it. */
    private static void stepIsOfTheLatest(Due due) {
        due.of("Promise 11: the latest check() or trace()");
        due.is("check", due.x.check(18), -110);
        due.is("tell", due.x.tell(20, 0), 17);
        due.is("tell of none", due.x.tell(0, 0), -1);
        due.is("print", due.x.print(3), 11);
        due.is("print of none", due.x.print(-1), -1);
        due.is("rests", due.x.rests(20, 0), 2);
        due.is("thing", due.x.thing(0, 0), -1);
        due.feed("k");
        due.is("find", due.x.find(), 3);
        due.is("step of check(18)", due.x.step(), 100);
        due.is("trace", due.x.trace(20, 1), 2);
        due.is("step of trace", due.x.step(), 5);
        due.is("check", due.x.check(12), -104);
        due.is("step of check", due.x.step(), 1);
    }

    /** Promise 12: "The first n + 1 steps of the proof of a $p are run .. how many things are on the stack then." */
    private static void traceFirstSteps(Due due) {
        due.of("Promise 12: the first n + 1 steps are run");
        int[] things = {1, 2, 1, 2, 1};
        int[] uppermost = {2, 2, 3, 3, 5};
        for (int n = 0; n < 5; n++) {
            due.is("trace(20, " + n + ")", due.x.trace(20, n), things[n]);
            due.is("count(4)", due.x.count(4), things[n]);
            due.is("symbols of the uppermost", due.x.thing(0, -1), uppermost[n]);
        }
    }

    /** Promise 12: "(all, if there are fewer)". */
    private static void traceAllIfFewer(Due due) {
        due.of("Promise 12: all, if there are fewer");
        for (int n : new int[] {4, 5, 6, 999, 1000, 1001, Integer.MAX_VALUE - 1, Integer.MAX_VALUE}) {
            due.is("trace(20, " + n + ")", due.x.trace(20, n), 1);
            due.is("symbols of the uppermost", due.x.thing(0, -1), 5);
            due.is("trace(8, " + n + ")", due.x.trace(8, n), 1);
            due.is("trace(18, " + n + ")", due.x.trace(18, n), n < 100 ? n + 1 : -110);
        }
    }

    private static void nothingIsThere(Due due, String call) {
        due.is("count(4) behind " + call, due.x.count(4), 0);
        due.is("thing(0, 0) behind " + call, due.x.thing(0, 0), -1);
        due.is("thing(0, -1) behind " + call, due.x.thing(0, -1), -1);
    }

    private static void refused(Due due, int k, int n, int answer) {
        String call = "trace(" + k + ", " + n + ")";
        due.is("trace(20, 3)", due.x.trace(20, 3), 2);
        due.is(call, due.x.trace(k, n), answer);
        nothingIsThere(due, call);
    }

    /** Promise 12: "BAD: no $p, or n below 0 .. (with all of these nothing is on the stack)". */
    private static void traceBad(Due due) {
        due.of("Promise 12: BAD: no $p, or n below 0");
        for (int k : NO_PROOFS) {
            refused(due, k, 0, -1);
        }
        for (int n : new int[] {-1, -2, Integer.MIN_VALUE}) {
            refused(due, 20, n, -1);
            refused(due, 19, n, -1);
            refused(due, 9, n, -1);
        }
    }

    /** Promise 12: "-9: it is OPEN", and nothing is on the stack. */
    private static void traceOpen(Due due) {
        due.of("Promise 12: -9: it is OPEN");
        refused(due, 19, 0, -9);
        refused(due, 19, 9, -9);
        // -109 is none of trace()'s answers: the end is not looked at.
        due.is("trace(17, 0)", due.x.trace(17, 0), 1);
    }

    /** Promise 12: "-100 less the fault of reading it": whatever n is. */
    private static void traceFaultOfReading(Due due) {
        due.of("Promise 12: -100 less the fault of reading it");
        for (int n : new int[] {0, 1, 50}) {
            refused(due, 9, n, -101);
            refused(due, 10, n, -102);
            refused(due, 11, n, -103);
        }
    }

    /** Promise 12: "or of one of these steps (with all of these nothing is on the stack)". */
    private static void traceFaultOfAStep(Due due) {
        due.of("Promise 12: -100 less the fault of one of these steps");
        int[] at = {1, 2, 1, 2};
        for (int i = 0; i < 4; i++) {
            refused(due, 12 + i, at[i], -104 - i);
            refused(due, 12 + i, at[i] + 1, -104 - i);
            refused(due, 12 + i, Integer.MAX_VALUE, -104 - i);
        }
        refused(due, 18, 100, -110);
    }

    /** Promise 12: a fault of a step behind "these steps", or of the end, is none. */
    private static void traceFaultBehind(Due due) {
        due.of("Promise 12: a fault behind these steps is none");
        int[] at = {1, 2, 1, 2};
        for (int i = 0; i < 4; i++) {
            due.is("trace(" + (12 + i) + ", before)", due.x.trace(12 + i, at[i] - 1), at[i]);
        }
        due.is("two things at the end", due.x.trace(16, 1), 2);
        due.is("other symbols at the end", due.x.trace(17, 0), 1);
        due.is("its symbol", due.x.thing(0, 1), 4);
    }

    /** Promise 12 and Terms: 100 things may be on the stack. */
    private static void traceHundred(Due due) {
        due.of("Promise 12: a hundred things");
        due.is("trace(18, 99)", due.x.trace(18, 99), 100);
        due.is("count(4)", due.x.count(4), 100);
        due.is("the lowest one", due.x.thing(99, 1), 3);
        due.is("none below", due.x.thing(100, 0), -1);
    }

    /** Promise 13: "Symbol i of thing d .. 0 being the uppermost one; how many it has for i = -1." */
    private static void thing(Due due) {
        due.of("Promise 13: symbol i of thing d, 0 being the uppermost one");
        due.is("trace(13, 1)", due.x.trace(13, 1), 2);
        int[][] things = {{2, 1}, {0, 3}};
        for (int d = 0; d < 2; d++) {
            due.is("thing(" + d + ", -1)", due.x.thing(d, -1), 2);
            for (int i = 0; i < 2; i++) {
                due.is("thing(" + d + ", " + i + ")", due.x.thing(d, i), things[d][i]);
            }
        }
    }

    /** Promise 13: "BAD: none such." */
    private static void thingBad(Due due) {
        due.of("Promise 13: BAD: none such");
        due.is("trace(13, 1)", due.x.trace(13, 1), 2);
        for (int d = 0; d < 2; d++) {
            for (int i : new int[] {-2, 2, 3, Integer.MIN_VALUE, Integer.MAX_VALUE}) {
                due.is("thing(" + d + ", " + i + ")", due.x.thing(d, i), -1);
            }
        }
        for (int d : new int[] {-1, 2, 3, 100, 101, Integer.MIN_VALUE, Integer.MAX_VALUE}) {
            for (int i = -2; i < 3; i++) {
                due.is("thing(" + d + ", " + i + ")", due.x.thing(d, i), -1);
            }
        }
    }

    /** Promise 13: "on the stack of the latest trace()": check() and tell() leave it. */
    private static void thingOfTheLatest(Due due) {
        due.of("Promise 13: the stack of the latest trace()");
        due.is("trace(13, 1)", due.x.trace(13, 1), 2);
        due.is("check", due.x.check(20), 0);
        due.is("check", due.x.check(18), -110);
        due.is("check of none", due.x.check(0), -1);
        due.is("tell", due.x.tell(20, 0), 17);
        due.is("tell of a wrong one", due.x.tell(12, 1), -2);
        due.is("print", due.x.print(0), 12);
        due.is("count(4)", due.x.count(4), 2);
        due.is("thing(0, 0)", due.x.thing(0, 0), 2);
        due.is("thing(1, 1)", due.x.thing(1, 1), 3);
        due.is("trace(8, 0)", due.x.trace(8, 0), 1);
        due.is("thing(0, 1)", due.x.thing(0, 1), 3);
        due.is("thing(1, 1)", due.x.thing(1, 1), -1);
    }

    private static void rests(Due due, int k, int... row) {
        for (int i = 0; i < row.length; i++) {
            due.is("rests(" + k + ", " + i + ")", due.x.rests(k, i), row[i]);
        }
        due.is("rests(" + k + ", " + row.length + ")", due.x.rests(k, row.length), -2);
    }

    /** Promise 17: "The i-th $a, by numbers, on which a $p RESTS: those that its proof names". */
    private static void restsByNumbers(Due due) {
        due.of("Promise 17: the $a that a proof names, by numbers");
        due.book("$c t $. a0 $a t $. a1 $a t $. a2 $a t $. p3 $p t $= a2 a0 a2 a0 $. p4 $p t $= a1 $. p5 $p t $= ( a2 a1 ) A $.",
            6);
        rests(due, 3, 0, 2);
        rests(due, 4, 1);
        rests(due, 5, 1, 2);
        // All that there can be.
        StringBuilder text = new StringBuilder("$c t $. ");
        for (int i = 0; i < 199; i++) {
            text.append('a').append(i).append(" $a t $. ");
        }
        text.append("p $p t $= ");
        for (int i = 198; i >= 0; i--) {
            text.append('a').append(i).append(' ');
        }
        due.book(text + "$.", 200);
        for (int i = 0; i < 199; i++) {
            due.is("rests(199, " + i + ")", due.x.rests(199, i), i);
        }
        due.is("rests(199, 199)", due.x.rests(199, 199), -2);
    }

    /** Promise 17: "and on which the $p that it names rest". */
    private static void restsThroughOthers(Due due) {
        due.of("Promise 17: and on which the $p that it names rest");
        due.book("$c t $. a0 $a t $. a1 $a t $. a2 $a t $. p3 $p t $= a2 $. p4 $p t $= p3 a1 $. p5 $p t $= ( p4 ) A $. "
            + "p6 $p t $= p5 p3 $. p7 $p t $= a0 p6 $. p8 $p t $= ? $. p9 $p t $= p8 $.", 10);
        rests(due, 3, 2);
        rests(due, 4, 1, 2);
        rests(due, 5, 1, 2);
        rests(due, 6, 1, 2);
        rests(due, 7, 0, 1, 2);
        rests(due, 8);
        rests(due, 9);
        StringBuilder chain = new StringBuilder("$c t $. a0 $a t $. p1 $p t $= a0 $. ");
        for (int i = 2; i < 200; i++) {
            chain.append('p').append(i).append(" $p t $= p").append(i - 1).append(" $. ");
        }
        due.book(chain.toString(), 200);
        rests(due, 199, 0);
    }

    /** Promise 17: "a proof names what its tokens name, as labels of statements before it". */
    private static void restsOnStatementsBefore(Due due) {
        due.of("Promise 17: labels of statements before it");
        due.book("$c t $. $v a $. f0 $f t a $. ${ e1 $e t $. $} p2 $p t $= a3 p2 p4 t zz f0 e1 $. a3 $a t $. "
            + "p4 $p t $= a3 p2 $. p5 $p t $= p2 $.", 6);
        rests(due, 2);
        rests(due, 4, 3);
        rests(due, 5);
    }

    /** Promise 17: "(in a compressed one those between ( and ) ; all, when that lacks)". */
    private static void restsOfCompressed(Due due) {
        due.of("Promise 17: in a compressed one those between ( and ); all, when that lacks");
        due.book("$c t $. A $a t $. B $a t $. C $a t $. p3 $p t $= ( A ) B C $. p4 $p t $= ( A B C $. p5 $p t $= ( ) A $. "
            + "p6 $p t $= A ) B ( C $. p7 $p t $= ( A ) B ) C $. p8 $p t $= ( A ( B ) C $. p9 $p t $= ( $. "
            + "p10 $p t $= ) A $. p11 $p t $= ( C p7 ) B $.", 12);
        rests(due, 3, 0);
        rests(due, 4, 0, 1, 2);
        rests(due, 5);
        rests(due, 6, 0, 1, 2);
        rests(due, 7, 0);
        rests(due, 8, 0, 1);
        rests(due, 9);
        rests(due, 10, 0);
        rests(due, 11, 0, 2);
    }

    /** Promise 17: what "its proof names", also when it is wrong, OPEN, or does not use it. */
    private static void restsWhateverTheProof(Due due) {
        due.of("Promise 17: what a proof names, right or not");
        due.book("$c t u $. a0 $a t $. a1 $a u $. p2 $p t $= a0 ? $. p3 $p t $= a1 a0 $. p4 $p t $= ( a0 a1 ) A $. "
            + "p5 $p t $= $. p6 $p t $= ( a1 zz ) ! $.", 7);
        rests(due, 2, 0);
        rests(due, 3, 0, 1);
        rests(due, 4, 0, 1);
        rests(due, 5);
        rests(due, 6, 1);
    }

    /** Promise 17: "BAD: no $p". */
    private static void restsBad(Due due) {
        due.of("Promise 17: BAD: no $p");
        due.book(TEXT, 21);
        for (int k : NO_PROOFS) {
            for (int i : new int[] {0, 1, -1, Integer.MAX_VALUE}) {
                due.is("rests(" + k + ", " + i + ")", due.x.rests(k, i), -1);
            }
        }
    }

    /** Promise 17: "NO: there are not so many." */
    private static void restsNo(Due due) {
        due.of("Promise 17: NO: there are not so many");
        due.book(TEXT, 21);
        due.is("rests(8, 0)", due.x.rests(8, 0), -2);
        due.is("rests(20, 0)", due.x.rests(20, 0), 2);
        for (int i : new int[] {1, 2, 64, 200, Integer.MAX_VALUE, -1, Integer.MIN_VALUE}) {
            due.is("rests(20, " + i + ")", due.x.rests(20, i), -2);
        }
    }
}
