/** Promises 1 to 9, 15, 16 and 18: each sentence that names a bound or a refused call. */
public final class CallEdgesTest {
    // 0 fa, 1 fb, 2 e, 3 x, 4 p, 5 y, 6 q
    private static final String TEXT = "$c tt | $. $v a b $. fa $f tt a $. fb $f tt b $. ${ $d b a $. ${ e $e | a $. "
        + "x $a | a b $. p $p | a $= e $. $} $} y $a | $. q $p | $= ( y ) A? $.";
    private static final int[] WILD = {Integer.MIN_VALUE, -8193, -2, Integer.MAX_VALUE};

    public static void main(String[] args) {
        Due due = new Due();
        all(due);
        due.end();
    }

    static void all(Due due) {
        newObject(due);
        feedOrder(due);
        feedZeros(due);
        feedAnswers(due);
        feedFull(due);
        readEmptiesTheText(due);
        readAnswersStatements(due);
        readKeepsTheBook(due);
        readForgets(due);
        place(due);
        count(due);
        countBad(due);
        statement(due);
        statementBlocks(due);
        statementBad(due);
        symbol(due);
        name(due);
        nameBad(due);
        frame(due);
        framePairsInOrder(due);
        frameBad(due);
        frameNo(due);
        print(due);
        printBad(due);
        printFull(due);
        out(due);
        find(due);
        findNo(due);
        findEmptiesTheText(due);
        callsToTheLast(due);
    }

    /** Promise 1: "An empty text and book; nothing was read, checked or told." */
    private static void newObject(Due due) {
        due.of("Promise 1: an empty text and book");
        due.fresh();
        for (int what = 0; what <= 4; what++) {
            due.is("count(" + what + ")", due.x.count(what), 0);
        }
        due.is("place()", due.x.place(), 0);
        due.is("step()", due.x.step(), 0);
        due.is("statement(0, 0)", due.x.statement(0, 0), -1);
        due.is("symbol(0, 0)", due.x.symbol(0, 0), -1);
        due.is("name(0, 0, 0)", due.x.name(0, 0, 0), -1);
        due.is("name(1, 0, 0)", due.x.name(1, 0, 0), -1);
        due.is("frame(0, 0, 0)", due.x.frame(0, 0, 0), -1);
        due.is("check(0)", due.x.check(0), -1);
        due.is("trace(0, 0)", due.x.trace(0, 0), -1);
        due.is("thing(0, 0)", due.x.thing(0, 0), -1);
        due.is("thing(0, -1)", due.x.thing(0, -1), -1);
        due.is("tell(0, 0)", due.x.tell(0, 0), -1);
        due.is("print(0)", due.x.print(0), -1);
        due.is("out(0)", due.x.out(0), -1);
        due.is("rests(0, 0)", due.x.rests(0, 0), -1);
        due.is("find()", due.x.find(), -2);
        due.is("read()", due.x.read(), 0);
        due.is("place()", due.x.place(), 0);
        due.is("constants", AxiomBook.BAD * 100 + AxiomBook.NO * 10 + AxiomBook.FULL, -123);
        due.is("OPEN", AxiomBook.OPEN, 1);
    }

    /** Promise 2: "Up to sixteen bytes, those of a, then those of b, each the highest one first". */
    private static void feedOrder(Due due) {
        due.of("Promise 2: those of a, then those of b, the highest first");
        due.fresh();
        due.is("feed", due.x.feed(0x2463204142434445L, 0x464748494a20242eL), 16);
        due.is("read", due.x.read(), 0);
        due.is("the symbol", due.name(0, 0), "ABCDEFGHIJ");
        due.is("high bytes", due.x.feed(-1L, 0x8000000000000080L), 10);
        due.is("read", due.x.read(), -1);
    }

    /** Promise 2: "a byte 0 is none". */
    private static void feedZeros(Due due) {
        due.of("Promise 2: a byte 0 is none");
        due.fresh();
        due.is("none at all", due.x.feed(0, 0), 0);
        due.is("one in a", due.x.feed(0x24L, 0), 1);
        due.is("one in b", due.x.feed(0, 0x6300000000000000L), 2);
        due.is("some", due.x.feed(0x0020004100420000L, 0x0000430000200024L), 8);
        due.is("none", due.x.feed(0, 0), 8);
        due.is("one", due.x.feed(0, 0x2eL), 9);
        due.is("read", due.x.read(), 0);
        due.is("the symbol", due.name(0, 0), "ABC");
    }

    /** Promise 2: "how many bytes THE TEXT has". */
    private static void feedAnswers(Due due) {
        due.of("Promise 2: how many bytes THE TEXT has");
        due.fresh();
        int sum = 0;
        for (int n = 0; n <= 16; n++) {
            byte[] bytes = "x".repeat(n).getBytes();
            sum += n;
            due.is("feed of " + n, due.x.feed(Due.word(bytes, 0), Due.word(bytes, 8)), sum);
            due.is("count(2)", due.x.count(2), sum);
        }
        due.is("read", due.x.read(), -2);
        due.is("feed of one", due.x.feed(0x20L, 0), 1);
        due.is("find", due.x.find(), -2);
        due.is("feed of one", due.x.feed(0x20L, 0), 1);
    }

    /**
     * Promise 2: "FULL when it would have more than 8192 (none comes)." It takes more than 512 calls to see it, so it
     * is beyond what is promised of an object, but it holds.
     */
    private static void feedFull(Due due) {
        due.of("Promise 2: FULL when it would have more than 8192");
        long blanks = 0x2020202020202020L;
        due.fresh();
        for (int i = 1; i <= 512; i++) {
            due.is("feed " + i, due.x.feed(blanks, blanks), 16 * i);
        }
        for (int shift = 0; shift < 64; shift += 8) {
            for (long value : new long[] {1, 2, 127, 128, 255}) {
                due.is("one more in a", due.x.feed(value << shift, 0), -3);
                due.is("one more in b", due.x.feed(0, value << shift), -3);
            }
        }
        due.is("none more", due.x.feed(0, 0), 8192);
        due.is("count(2)", due.x.count(2), 8192);
        due.is("read", due.x.read(), 0);
        due.is("place", due.x.place(), 8192);
        for (int i = 1; i <= 511; i++) {
            due.x.feed(blanks, blanks);
        }
        due.x.feed(0x20, 0x2000);
        due.is("fifteen too many", due.x.feed(blanks, blanks), -3);
        due.is("none came", due.x.count(2), 8178);
        due.is("fourteen", due.x.feed(blanks, 0x2020202020200000L), 8192);
        due.is("one too many", due.x.feed(0x78, 0), -3);
        due.is("read: no x came", due.x.read(), 0);
    }

    /** Promise 3: "THE TEXT, which is empty then whatever the answer, is read". */
    private static void readEmptiesTheText(Due due) {
        due.of("Promise 3: THE TEXT is empty then whatever the answer");
        for (String text : new String[] {"", "$c t $.", "$c t", "\u0001", "$.", "! $a", "$c t t", "$d x"}) {
            due.fresh();
            due.feed(text);
            due.x.read();
            due.is("count(2) behind " + text, due.x.count(2), 0);
            due.is("feed", due.x.feed(0x20L, 0), 1);
            due.is("read of a blank", due.x.read(), 0);
            due.is("place", due.x.place(), 1);
        }
    }

    /** Promise 3: "it is the book: how many statements it has". */
    private static void readAnswersStatements(Due due) {
        due.of("Promise 3: how many statements the book has");
        due.book("", 0);
        due.book("$c t $. $v a b $. $d a b $. ${ $}", 0);
        due.book("$c t $. x $a t $.", 1);
        due.book(TEXT, 7);
        // A book is read for itself: nothing of the one before is in it.
        due.feed("$v tt $. $c a fa $. e $e fa a $.");
        due.is("another book", due.x.read(), 1);
        due.is("its symbols", due.x.count(0), 3);
        due.is("its hypotheses", due.x.statement(0, 3), 0);
        due.is("an empty text", due.x.read(), 0);
        due.is("an empty book", due.x.count(0) + due.x.count(1), 0);
        due.is("no statement", due.x.statement(0, 0), -1);
    }

    /** Promise 3: "0 less the number of the fault when there is one (the book stays as it was)". */
    private static void readKeepsTheBook(Due due) {
        due.of("Promise 3: with a fault the book stays as it was");
        String[] faulty = {"$c z \u0001", "$c z", "$c z $. x $a z $. $.", "$c z $. z", "$c z z", "$c z $. x $a z y $.",
            Due.times(17, "${ ")};
        due.book(TEXT, 7);
        for (int fault = 1; fault <= 7; fault++) {
            due.feed(faulty[fault - 1]);
            due.is("read of " + faulty[fault - 1], due.x.read(), -fault);
            due.is("symbols", due.x.count(0), 4);
            due.is("statements", due.x.count(1), 7);
            due.is("symbol 0", due.name(0, 0), "tt");
            due.is("label 6", due.name(1, 6), "q");
            due.is("hypotheses", due.x.statement(3, 3), 3);
            due.is("hypothesis 2", due.x.frame(3, 0, 2), 2);
            due.is("pairs", due.x.frame(3, 1, 0) * 10 + due.x.frame(3, 2, 0), 23);
            due.is("symbol(3, 2)", due.x.symbol(3, 2), 3);
            due.is("check", due.x.check(4), 0);
            due.is("open", due.x.check(6), 1);
            due.is("rests", due.x.rests(6, 0), 5);
            due.is("print", due.x.print(3), 13);
            due.is("OUT", due.out(), "x $a | a b $.");
            due.feed("y");
            due.is("find", due.x.find(), 5);
        }
    }

    /** Promise 3: "What was checked or told is gone in both cases." */
    private static void readForgets(Due due) {
        due.of("Promise 3: what was checked or told is gone in both cases");
        for (String text : new String[] {TEXT, "", "$."}) {
            due.book(TEXT, 7);
            due.is("print", due.x.print(0), 13);
            due.is("trace", due.x.trace(4, 0), 1);
            due.is("check", due.x.check(4), 0);
            due.is("step", due.x.step(), 1);
            due.feed(text);
            due.is("print's OUT is there", due.x.count(3), 13);
            due.is("the stack is there", due.x.count(4), 1);
            due.x.read();
            due.is("step() behind " + text, due.x.step(), 0);
            due.is("count(3) behind " + text, due.x.count(3), 0);
            due.is("out(0) behind " + text, due.x.out(0), -1);
            due.is("count(4) behind " + text, due.x.count(4), 0);
            due.is("thing(0, 0) behind " + text, due.x.thing(0, 0), -1);
            due.is("thing(0, -1) behind " + text, due.x.thing(0, -1), -1);
        }
    }

    /** Promise 4: "Where the latest read() found its fault, or how long its text was when it found none; 0 before." */
    private static void place(Due due) {
        due.of("Promise 4: where the latest read() found its fault");
        due.fresh();
        due.is("before", due.x.place(), 0);
        due.feed("$c t $. ");
        due.is("fed, not read", due.x.place(), 0);
        due.is("read", due.x.read(), 0);
        due.is("the text's length", due.x.place(), 8);
        due.feed("$c t t $.");
        due.is("not read", due.x.place(), 8);
        due.is("read", due.x.read(), -5);
        due.is("the fault's place", due.x.place(), 5);
        due.feed("x");
        due.is("find is no read", due.x.find(), -2);
        due.is("BAD", due.x.check(0), -1);
        due.is("the fault's place", due.x.place(), 5);
        due.feed("  ${  ");
        due.is("read", due.x.read(), -2);
        due.is("the text's length", due.x.place(), 6);
        due.feed("$.");
        due.is("read", due.x.read(), -3);
        due.is("at the first byte", due.x.place(), 0);
        due.is("an empty text", due.x.read(), 0);
        due.is("its length", due.x.place(), 0);
    }

    /** Promise 5: symbols, statements, bytes and "things on the stack of the latest trace() (4; 0 without)". */
    private static void count(Due due) {
        due.of("Promise 5: symbols, statements, bytes in THE TEXT and in the OUT, things on the stack");
        due.book(TEXT, 7);
        due.is("symbols", due.x.count(0), 4);
        due.is("statements", due.x.count(1), 7);
        due.is("bytes in THE TEXT", due.x.count(2), 0);
        due.is("bytes in the OUT", due.x.count(3), 0);
        due.is("things without a trace()", due.x.count(4), 0);
        due.is("check is no trace", due.x.check(4), 0);
        due.is("things", due.x.count(4), 0);
        due.is("trace", due.x.trace(4, 9), 1);
        due.is("things", due.x.count(4), 1);
        due.is("trace of none", due.x.trace(0, 0), -1);
        due.is("things", due.x.count(4), 0);
        due.is("tell", due.x.tell(4, 1), 5);
        due.is("bytes in the OUT", due.x.count(3), 5);
        due.feed("abc");
        due.is("bytes in THE TEXT", due.x.count(2), 3);
        due.is("symbols", due.x.count(0), 4);
    }

    /** Promise 5: "BAD." */
    private static void countBad(Due due) {
        due.of("Promise 5: BAD");
        for (int round = 0; round < 2; round++) {
            for (int what : new int[] {Integer.MIN_VALUE, -5, -1, 5, 6, 256, Integer.MAX_VALUE}) {
                due.is("count(" + what + ")", due.x.count(what), -1);
            }
            due.fresh();
        }
    }

    /** Promise 6: its kind, symbols, HYPOTHESES, DISTINCT pairs ("of $f and $e 0 both"), tokens ("0 for others"). */
    private static void statement(Due due) {
        due.of("Promise 6: of a statement its kind, symbols, blocks, HYPOTHESES, pairs, tokens");
        due.book(TEXT, 7);
        int[][] all = {{0, 2, 0, 0, 0, 0}, {0, 2, 0, 0, 0, 0}, {1, 2, 2, 0, 0, 0}, {2, 3, 2, 3, 1, 0}, {3, 2, 2, 2, 0, 1},
            {2, 1, 0, 0, 0, 0}, {3, 1, 0, 0, 0, 4}};
        for (int k = 0; k < all.length; k++) {
            for (int what = 0; what < 6; what++) {
                due.is("statement(" + k + ", " + what + ")", due.x.statement(k, what), all[k][what]);
            }
        }
        due.book("$c t $. p $p t $= $. q $p t $= $( x $) $.", 2);
        due.is("a proof without tokens", due.x.statement(0, 5), 0);
        due.is("a proof without tokens", due.x.statement(1, 5), 0);
    }

    /** Promise 6: "how many blocks are open there". */
    private static void statementBlocks(Due due) {
        due.of("Promise 6: how many blocks are open there");
        StringBuilder text = new StringBuilder("$c t $. x0 $a t $. ");
        for (int i = 1; i <= 16; i++) {
            text.append("${ ${ $} x").append(i).append(" $a t $. ");
        }
        // The seventeenth of them would be open at once, so the last one has no block within.
        int last = text.lastIndexOf("${ $} ");
        text.delete(last, last + 6);
        for (int i = 1; i <= 16; i++) {
            text.append("$} y").append(i).append(" $p t $= $. ");
        }
        due.book(text.toString(), 33);
        for (int i = 0; i <= 16; i++) {
            due.is("blocks at x" + i, due.x.statement(i, 2), i);
        }
        for (int i = 1; i <= 16; i++) {
            due.is("blocks at y" + i, due.x.statement(16 + i, 2), 16 - i);
        }
    }

    /** Promise 6: "BAD: no such statement, what." */
    private static void statementBad(Due due) {
        due.of("Promise 6: BAD: no such statement, what");
        due.book(TEXT, 7);
        for (int what = 0; what < 6; what++) {
            due.is("statement(-1, " + what + ")", due.x.statement(-1, what), -1);
            due.is("statement(7, " + what + ")", due.x.statement(7, what), -1);
            due.is("statement(6, " + what + ") is one", due.x.statement(6, what) >= 0 ? 1 : 0, 1);
            for (int k : WILD) {
                due.is("statement(" + k + ", " + what + ")", due.x.statement(k, what), -1);
            }
        }
        for (int k = 0; k < 7; k++) {
            due.is("statement(" + k + ", -1)", due.x.statement(k, -1), -1);
            due.is("statement(" + k + ", 6)", due.x.statement(k, 6), -1);
            for (int what : WILD) {
                due.is("statement(" + k + ", " + what + ")", due.x.statement(k, what), -1);
            }
        }
    }

    /** Promise 7: "Symbol i of a statement; BAD: none such." */
    private static void symbol(Due due) {
        due.of("Promise 7: symbol i of a statement; BAD");
        due.book(TEXT, 7);
        int[][] all = {{0, 2}, {0, 3}, {1, 2}, {1, 2, 3}, {1, 2}, {1}, {1}};
        for (int k = 0; k < all.length; k++) {
            for (int i = 0; i < all[k].length; i++) {
                due.is("symbol(" + k + ", " + i + ")", due.x.symbol(k, i), all[k][i]);
            }
            due.is("symbol(" + k + ", -1)", due.x.symbol(k, -1), -1);
            due.is("symbol(" + k + ", end)", due.x.symbol(k, all[k].length), -1);
            for (int i : WILD) {
                due.is("symbol(" + k + ", " + i + ")", due.x.symbol(k, i), -1);
                due.is("symbol(" + i + ", 0)", due.x.symbol(i, 0), -1);
            }
        }
        due.is("symbol(-1, 0)", due.x.symbol(-1, 0), -1);
        due.is("symbol(7, 0)", due.x.symbol(7, 0), -1);
    }

    /** Promise 8: "Byte i of a symbol's name (kind = 0), or of a statement's label (1)". */
    private static void name(Due due) {
        due.of("Promise 8: byte i of a name");
        due.book("$c ! ~ t.u $. AZ-az_09. $a ! $. x $p ~ $= $.", 2);
        due.is("symbol 0", due.name(0, 0), "!");
        due.is("symbol 1", due.name(0, 1), "~");
        due.is("symbol 2", due.name(0, 2), "t.u");
        due.is("label 0", due.name(1, 0), "AZ-az_09.");
        due.is("label 1", due.name(1, 1), "x");
        due.is("first byte", due.x.name(0, 2, 0), 't');
        due.is("last byte", due.x.name(0, 2, 2), 'u');
        due.is("last byte", due.x.name(1, 0, 8), '.');
    }

    /** Promise 8: "BAD: none such." */
    private static void nameBad(Due due) {
        due.of("Promise 8: BAD: none such");
        due.book(TEXT, 7);
        int[] counts = {4, 7};
        for (int kind = 0; kind < 2; kind++) {
            due.is("name(" + kind + ", -1, 0)", due.x.name(kind, -1, 0), -1);
            due.is("name(" + kind + ", end, 0)", due.x.name(kind, counts[kind], 0), -1);
            due.is("name(" + kind + ", last, 0)", due.x.name(kind, counts[kind] - 1, 0) > 32 ? 1 : 0, 1);
            due.is("name(" + kind + ", 0, -1)", due.x.name(kind, 0, -1), -1);
            due.is("name(" + kind + ", 0, 2)", due.x.name(kind, 0, 2), -1);
            for (int wild : WILD) {
                due.is("name(" + kind + ", " + wild + ", 0)", due.x.name(kind, wild, 0), -1);
                due.is("name(" + kind + ", 0, " + wild + ")", due.x.name(kind, 0, wild), -1);
            }
        }
        for (int kind : new int[] {-1, 2, 3, Integer.MIN_VALUE, Integer.MAX_VALUE}) {
            due.is("name(" + kind + ", 0, 0)", due.x.name(kind, 0, 0), -1);
        }
    }

    /** Promise 9: "the number of HYPOTHESIS i (what = 0)"; the lesser (1) and the greater (2) symbol of a pair. */
    private static void frame(Due due) {
        due.of("Promise 9: of an assertion its HYPOTHESES and DISTINCT pairs");
        due.book(TEXT, 7);
        int[] hypotheses = {0, 1, 2};
        for (int i = 0; i < 3; i++) {
            due.is("frame(3, 0, " + i + ")", due.x.frame(3, 0, i), hypotheses[i]);
        }
        due.is("frame(3, 1, 0)", due.x.frame(3, 1, 0), 2);
        due.is("frame(3, 2, 0)", due.x.frame(3, 2, 0), 3);
        due.is("frame(4, 0, 0)", due.x.frame(4, 0, 0), 0);
        due.is("frame(4, 0, 1)", due.x.frame(4, 0, 1), 2);
    }

    /** Promise 9: the i-th pair "by the lesser, then the greater ones". */
    private static void framePairsInOrder(Due due) {
        due.of("Promise 9: pairs by the lesser, then the greater ones");
        due.book("$v a b c d $. $c t $. fa $f t a $. fb $f t b $. fc $f t c $. fd $f t d $. $d d c $. $d d b $. $d c b $. "
            + "$d d a $. $d c a $. x $a t a b c d $.", 5);
        int[][] pairs = {{0, 2}, {0, 3}, {1, 2}, {1, 3}, {2, 3}};
        for (int i = 0; i < pairs.length; i++) {
            due.is("frame(4, 1, " + i + ")", due.x.frame(4, 1, i), pairs[i][0]);
            due.is("frame(4, 2, " + i + ")", due.x.frame(4, 2, i), pairs[i][1]);
        }
        due.is("frame(4, 1, 5)", due.x.frame(4, 1, 5), -2);
        // Numbers of symbols that are far from one another, the last of them being 299.
        due.book("$c t $. $v " + Due.row("v", 1, 300) + "$. f1 $f t v1 $. f298 $f t v298 $. f299 $f t v299 $. "
            + "$d v299 v298 v1 $. x $a t v299 v1 v298 $.", 4);
        int[][] far = {{1, 298}, {1, 299}, {298, 299}};
        for (int i = 0; i < far.length; i++) {
            due.is("frame(3, 1, " + i + ")", due.x.frame(3, 1, i), far[i][0]);
            due.is("frame(3, 2, " + i + ")", due.x.frame(3, 2, i), far[i][1]);
        }
    }

    /** Promise 9: "BAD: no assertion, what". */
    private static void frameBad(Due due) {
        due.of("Promise 9: BAD: no assertion, what");
        due.book(TEXT, 7);
        for (int what = 0; what < 3; what++) {
            for (int k : new int[] {0, 1, 2, -1, 7, Integer.MIN_VALUE, Integer.MAX_VALUE}) {
                due.is("frame(" + k + ", " + what + ", 0)", due.x.frame(k, what, 0), -1);
                due.is("frame(" + k + ", " + what + ", 99)", due.x.frame(k, what, 99), -1);
            }
        }
        for (int what : new int[] {-1, 3, Integer.MIN_VALUE, Integer.MAX_VALUE}) {
            for (int k = 3; k < 7; k++) {
                due.is("frame(" + k + ", " + what + ", 0)", due.x.frame(k, what, 0), -1);
                due.is("frame(" + k + ", " + what + ", 99)", due.x.frame(k, what, 99), -1);
            }
        }
    }

    /** Promise 9: "NO: there are not so many." */
    private static void frameNo(Due due) {
        due.of("Promise 9: NO: there are not so many");
        due.book(TEXT, 7);
        int[][] counts = {{3, 1, 1}, {2, 0, 0}, {0, 0, 0}, {0, 0, 0}};
        for (int k = 3; k < 7; k++) {
            for (int what = 0; what < 3; what++) {
                int n = counts[k - 3][what];
                due.is("frame(" + k + ", " + what + ", " + n + ")", due.x.frame(k, what, n), -2);
                due.is("frame(" + k + ", " + what + ", greatest)", due.x.frame(k, what, Integer.MAX_VALUE), -2);
                due.is("frame(" + k + ", " + what + ", -1)", due.x.frame(k, what, -1), -2);
                if (n > 0) {
                    due.is("the last one is there", due.x.frame(k, what, n - 1) >= 0 ? 1 : 0, 1);
                }
            }
        }
    }

    private static void printed(Due due, int k, String text) {
        due.is("print(" + k + ")", due.x.print(k), text.length());
        due.is("OUT of print(" + k + ")", due.out(), text);
    }

    /** Promise 15: "its label, $f, $e, $a or $p, its symbols, with a 32 behind each of these, and $. ". */
    private static void print(Due due) {
        due.of("Promise 15: a statement is told");
        due.book(TEXT, 7);
        printed(due, 0, "fa $f tt a $.");
        printed(due, 2, "e $e | a $.");
        printed(due, 3, "x $a | a b $.");
        printed(due, 5, "y $a | $.");
        printed(due, 6, "q $p | $.");
        printed(due, 1, "fb $f tt b $.");
    }

    /** Promise 15: "BAD: no such statement", and the OUT stays. */
    private static void printBad(Due due) {
        due.of("Promise 15: BAD: no such statement");
        due.book(TEXT, 7);
        printed(due, 6, "q $p | $.");
        for (int k : new int[] {-1, 7, 200, Integer.MIN_VALUE, Integer.MAX_VALUE}) {
            due.is("print(" + k + ")", due.x.print(k), -1);
            due.is("the OUT stays", due.out(), "q $p | $.");
        }
    }

    /** Promise 15: "FULL: more than 6000 bytes (the OUT stays)." */
    private static void printFull(Due due) {
        due.of("Promise 15: FULL: more than 6000 bytes");
        // By its label alone, and by its symbols.
        for (int more = 0; more <= 2; more++) {
            String label = "l".repeat(6000 - 8 + more);
            due.book("$c t $. " + label + " $a t $. s $a t $.", 2);
            printed(due, 1, "s $a t $.");
            due.is("print(0)", due.x.print(0), more == 0 ? 6000 : -3);
            due.is("count(3)", due.x.count(3), more == 0 ? 6000 : 9);
            due.is("the OUT", due.out(), more == 0 ? label + " $a t $." : "s $a t $.");
        }
        String name = "n".repeat(99);
        for (int more = 0; more <= 2; more++) {
            // 59 names of 100 bytes with their blanks are 5900; the label, t and the keywords make the rest.
            String label = "l".repeat(92 + more);
            due.book("$c t " + name + " $. " + label + " $e t " + (name + " ").repeat(59) + "$. s $a t $.", 2);
            printed(due, 1, "s $a t $.");
            due.is("print(0)", due.x.print(0), more == 0 ? 6000 : -3);
            due.is("count(3)", due.x.count(3), more == 0 ? 6000 : 9);
        }
    }

    /** Promise 16: "Byte i of the OUT; BAD." */
    private static void out(Due due) {
        due.of("Promise 16: byte i of the OUT; BAD");
        due.book(TEXT, 7);
        due.is("out(0) of an empty OUT", due.x.out(0), -1);
        due.is("print", due.x.print(5), 9);
        due.is("out(0)", due.x.out(0), 'y');
        due.is("out(1)", due.x.out(1), ' ');
        due.is("out(8)", due.x.out(8), '.');
        for (int i : new int[] {-1, 9, 10, 6000, Integer.MIN_VALUE, Integer.MAX_VALUE}) {
            due.is("out(" + i + ")", due.x.out(i), -1);
        }
        // A shorter one behind a longer one ends where it ends.
        due.is("print", due.x.print(3), 13);
        due.is("print", due.x.print(5), 9);
        due.is("out(9)", due.x.out(9), -1);
        String label = "l".repeat(5992);
        due.book("$c t $. " + label + " $a t $.", 1);
        due.is("print", due.x.print(0), 6000);
        due.is("out(5999)", due.x.out(5999), '.');
        due.is("out(6000)", due.x.out(6000), -1);
    }

    private static void found(Due due, String text, int answer) {
        due.feed(text);
        due.is("find() of '" + text + "'", due.x.find(), answer);
    }

    /** Promise 18: "The statement whose label THE TEXT is". */
    private static void find(Due due) {
        due.of("Promise 18: the statement whose label THE TEXT is");
        due.book(TEXT, 7);
        String[] labels = {"fa", "fb", "e", "x", "p", "y", "q"};
        for (int k = 0; k < labels.length; k++) {
            found(due, labels[k], k);
        }
        String longest = "l".repeat(8192 - "$c t $.  $a t $.".length());
        due.book("$c t $. " + longest + " $a t $.", 1);
        found(due, longest, 0);
        found(due, longest + "l", -2);
        due.book("$c t $. " + "l".repeat(100) + " $a t $. " + "l".repeat(101) + " $a t $.", 2);
        found(due, "l".repeat(100), 0);
        found(due, "l".repeat(101), 1);
        found(due, "l".repeat(99), -2);
        found(due, "l".repeat(102), -2);
    }

    /** Promise 18: "NO: there is none." */
    private static void findNo(Due due) {
        due.of("Promise 18: NO: there is none");
        due.book(TEXT, 7);
        for (String text : new String[] {"", " ", "f", "fab", "FA", "tt", "a", "|", " x", "x ", "x y", "$c", "\u0001",
            "\u00ff", "x\n", "? "}) {
            found(due, text, -2);
        }
        due.is("an empty book", due.x.read(), 0);
        found(due, "x", -2);
    }

    /** Promise 18: THE TEXT "is empty then, whatever the answer". */
    private static void findEmptiesTheText(Due due) {
        due.of("Promise 18: THE TEXT is empty then, whatever the answer");
        due.book(TEXT, 7);
        found(due, "x", 3);
        due.is("count(2)", due.x.count(2), 0);
        found(due, "zz", -2);
        due.is("count(2)", due.x.count(2), 0);
        found(due, "y", 5);
        found(due, "", -2);
        due.is("read of an empty text", due.x.read(), 0);
        due.is("place", due.x.place(), 0);
    }

    /** What it is: "An object is used for at most 512 calls": all of them answer, whatever came before. */
    private static void callsToTheLast(Due due) {
        due.of("What it is: at most 512 calls");
        due.fresh();
        due.feed(TEXT);
        due.is("read", due.x.read(), 7);
        int calls = (TEXT.length() + 15) / 16 + 1;
        for (int round = 0; calls + 5 <= 512; round++, calls += 5) {
            due.is("print", due.x.print(round % 7) > 0 ? 1 : 0, 1);
            due.is("check", due.x.check(4), 0);
            due.is("trace", due.x.trace(4, round), 1);
            due.is("tell", due.x.tell(4, round % 2), round % 2 == 0 ? 1 : 5);
            due.is("rests", due.x.rests(6, 0), 5);
        }
    }
}
