/** Promises 3 and 4: what would be too much for a text, and just not. */
public final class LimitTest {
    public static void main(String[] args) {
        Due due = new Due();
        blocks(due);
        symbols(due);
        statements(due);
        statementSymbols(due);
        distinctVariables(due);
        proofTokens(due);
        pairs(due);
        tokens(due);
        due.end();
    }

    private static void blocks(Due due) {
        due.book(Due.times(16, "${ ") + Due.times(16, "$} "), 0);
        due.faultAt(Due.times(16, "${ ") + "#${", 7);
        due.book(Due.times(16, "${ ") + "$} ${ " + Due.times(16, "$} "), 0);
        due.book(Due.times(40, "${ $} "), 0);
        due.book("$c t $. " + Due.times(16, "${ ") + "x $e t $. y $a t $. " + Due.times(16, "$} "), 2);
        due.is("blocks open", due.x.statement(0, 2), 16);
    }

    private static void symbols(Due due) {
        String all = "$c " + Due.row("c", 0, 150) + "$. $v " + Due.row("v", 150, 300) + "$. ";
        due.book(all, 0);
        due.is("symbols", due.x.count(0), 300);
        due.is("the last one", due.name(0, 299), "v299");
        due.faultAt(all + "$c #x $.", 7);
        due.faultAt(all + "$v #x $.", 7);
        due.faultAt(all + "$c #c0 $.", 5);
        due.faultAt(all + "$c #v299 $.", 5);
        due.faultAt(all + "$v #v299 $.", 5);
        due.faultAt(all + "x $a c0 $. $v #x $.", 7);
        String inner = "$c " + Due.row("c", 0, 290) + "$. ${ $v " + Due.row("v", 290, 300) + "$. $} ";
        due.book(inner + "$v v299 v290 $.", 0);
        due.faultAt(inner + "$v v299 v290 #x $.", 7);
        due.book(Due.times(500, "${ $v a $. $} "), 0);
        due.fresh();
        for (int i = 0; i < 4; i++) {
            due.feed("$v " + Due.row("v", 0, 300) + "$.");
            due.is("300 variables again", due.x.read(), 0);
        }
    }

    private static void statements(Due due) {
        StringBuilder all = new StringBuilder("$c t $. ");
        for (int i = 0; i < 200; i++) {
            all.append('s').append(i).append(" $a t $. ");
        }
        due.book(all + "$v a $. ${ $} $( x $)", 200);
        due.is("the last label", due.name(1, 199), "s199");
        due.faultAt(all + "#x $a t $.", 7);
        due.faultAt(all + "#s0 $a t $.", 7);
        due.faultAt(all + "#! $a t $.", 7);
        due.faultAt(all + "#$a t $.", 3);
    }

    private static void statementSymbols(Due due) {
        String head = "$c t $. $v a $. f $f t a $. ";
        for (String kind : new String[] {"$e", "$a", "$p"}) {
            String end = kind.equals("$p") ? "$= $." : "$.";
            due.book(head + "x " + kind + " t " + Due.times(59, "a ") + end, 2);
            due.is("symbols", due.x.statement(1, 1), 60);
            due.is("the last one", due.x.symbol(1, 59), 1);
            due.faultAt(head + "x " + kind + " t " + Due.times(59, "a ") + "#a", 7);
            due.faultAt(head + "x " + kind + " t " + Due.times(59, "a ") + "#zz", 7);
            due.faultAt(head + "x " + kind + " t " + Due.times(59, "a ") + "#$e", 3);
        }
        due.book("$c " + Due.row("c", 0, 100) + "$. $v " + Due.row("v", 0, 100) + "$.", 0);
    }

    private static void distinctVariables(Due due) {
        String head = "$v " + Due.row("v", 0, 9) + "$. $d " + Due.row("v", 0, 8);
        due.book(head + "$.", 0);
        due.faultAt(head + "#v8 $.", 7);
        due.faultAt(head + "#v0 $.", 7);
        due.faultAt(head + "#zz $.", 7);
        due.faultAt(head + "#$d", 3);
    }

    private static void proofTokens(Due due) {
        String head = "$c t $. x $p t $= ";
        due.book(head + Due.times(400, "z ") + "$.", 1);
        due.is("tokens", due.x.statement(0, 5), 400);
        due.book(head + Due.times(200, "z $( $) ") + Due.times(200, "z ") + "$.", 1);
        due.faultAt(head + Due.times(400, "z ") + "#z $.", 7);
        due.faultAt(head + Due.times(400, "z ") + "#$=", 3);
    }

    private static void pairs(Due due) {
        String head = "$v " + Due.row("v", 0, 60) + "$. ";
        // Seven rows of eight are 196 pairs.
        StringBuilder most = new StringBuilder(head);
        for (int i = 0; i < 7; i++) {
            most.append("$d ").append(Due.row("v", 8 * i, 8 * i + 8)).append("$. ");
        }
        String four = "$d v0 v8 v16 $. $d v0 v9 $. ";
        due.book(most + four, 0);
        due.faultAt(most + four + "$d v0 #v59 $.", 7);
        due.faultAt(most + four + "$d v0 #zz $.", 6);
        due.faultAt(most + four + "$d v0 #v0 $.", 6);
        due.book(most + four + "$d v0 v9 $. $d v1 v0 v7 $. $d v16 v0 $.", 0);
        due.faultAt(most + "$d v0 v8 v16 #v24 $.", 7);
        due.book(most + "${ " + four + "${ $d v0 v9 $. $} $} " + four, 0);
        due.faultAt(most + "${ " + four + "${ $d v0 v9 $. $} $d v0 #v57 $. $}", 7);
        due.faultAt(most + "${ " + four + "$} " + four + "$d v0 #v57 $.", 7);
    }

    private static void tokens(Due due) {
        due.fresh();
        due.feed("$c " + Due.times(8189 / 2, "x "));
        due.is("a text full of tokens", due.x.read(), -5);
        due.is("place", due.x.place(), 5);
        due.fresh();
        due.feed("$( " + Due.times(4093, "x ") + "$)x");
        due.is("a text full of comment, read", due.x.read(), -3);
        due.is("place", due.x.place(), 8189);
        due.fresh();
        due.feed("$( " + Due.times(4093, "x ") + "$)");
        due.is("a text full of comment, read", due.x.read(), 0);
        due.fresh();
        due.feed(Due.times(4096, "! "));
        due.is("a text full of wrong labels", due.x.read(), -4);
    }
}
