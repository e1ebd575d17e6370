/** Promise 7, runScript, with the grammar of a script. */
final class ScriptTest {
    private static final String NINE = " 10 10 10 10 10 10 10 10 10";

    private ScriptTest() {
    }

    public static void main(String[] args) {
        commandsAreTheMethods();
        executionEnds();
        oneChange();
        edges();
        syntaxErrors();
        rangeErrors();
        limitErrors();
        Check.finish();
    }

    private static void commandsAreTheMethods() {
        LowWaterAuction x = new LowWaterAuction();
        int executed = Auctions.run(x, "wait 1; nod 2; pay 1 60; split 1 1; withdraw 2; barrel 7 20 30; wait 3;");
        Check.due("7 executed commands", executed, 7);
        LowWaterAuction y = new LowWaterAuction();
        y.passMinutes(1);
        y.nod(2);
        y.fund(1, 60);
        y.split(1, 1);
        y.withdraw(2);
        String lengths = Auctions.lengths(x, 4);
        Check.due("7 BARREL", lengths, "[20, 30]");
        Check.due("7 BARREL's reserve", x.reserve(4), 7);
        y.addBarrel(7, 2, 25);
        y.passMinutes(3);
        Check.due("7 the methods' state", Auctions.state(x), Auctions.state(y).replace("[25, 25]", lengths));
        Check.dueThrow("7 the buffer is empty", IllegalArgumentException.class, () -> x.truncate(1));
        Check.due("7 queue", Auctions.queue(x), "[1, 3, 4]");
    }

    private static void executionEnds() {
        LowWaterAuction x = new LowWaterAuction();
        Check.due("7 split of no barrel", Auctions.run(x, "pay 0 10; split 19 1; pay 0 10;"), 1);
        Check.due("7 what was executed stays", x.purse(0), 210);
        Check.due("7 split of too few eels", Auctions.run(x, "pay 0 1; pay 0 1; split 0 3; pay 0 1;"), 2);
        Check.due("7 nod without an open barrel", Auctions.run(x, "nod 0;"), 0);
        Check.due("7 withdraw twice", Auctions.run(x, "withdraw 2; withdraw 2; wait 1;"), 1);
        Check.due("7 withdraw of no barrel", Auctions.run(x, "withdraw 3;"), 0);
        Check.due("7 nothing passed", x.minute(), 0);
        Check.due("7 nod twice", Auctions.run(x, "wait 1; nod 1; nod 1; wait 1;"), 2);
        Check.due("7 withdraw and split of an open barrel", Auctions.run(x, "withdraw 0;"), 0);
        Check.due("7 withdraw and split of an open barrel", Auctions.run(x, "split 0 1;"), 0);
        Check.due("7 barrels up to twenty",
            Auctions.run(x, Texts.times(18, "barrel 1 10;")), 17);
        Check.due("7 twenty barrels", x.barrelCount(), 20);
        Check.due("7 a split needs room", Auctions.run(x, "split 1 1;"), 0);
        Check.due("7 a barrel needs room", Auctions.run(x, "barrel 1 10;"), 0);
        LowWaterAuction y = new LowWaterAuction();
        Check.due("7 a new barrel can be split", Auctions.run(y, "barrel 9 10 20 30; split 3 2; withdraw 4; wait 1;"), 4);
        Check.due("7 the lengths of the rest", Auctions.lengths(y, 3), "[10]");
    }

    private static void oneChange() {
        LowWaterAuction x = new LowWaterAuction();
        x.setStep(6);
        String before = Auctions.state(x);
        Auctions.run(x, "wait 1; nod 2; wait 9; pay 0 5; barrel 1 10; split 9 1;");
        Check.due("7 a script is one change", x.undo(), 1);
        Check.due("7 undone", Auctions.state(x), before);
        Check.due("7 an empty script", Auctions.run(x, ""), 0);
        Check.due("7 a script of spaces", Auctions.run(x, "   "), 0);
        Check.due("7 a script that does nothing", Auctions.run(x, "nod 0;"), 0);
        Check.due("7 each of them is a change", x.undo(), 3);
    }

    private static void edges() {
        LowWaterAuction x = Auctions.of("market 60 60 9 50 50;" + Texts.times(6, "buyer 9999 0 1;") + "barrel 1" + NINE + ";");
        Check.due("7 greatest numbers", Auctions.run(x, "pay 5 9999; split 0 8; wait 200;"), 3);
        Check.due("7 pay", x.purse(5), 19998);
        Check.due("7 the number of a buyer", Auctions.run(x, "nod 5; split 19 8; withdraw 19;"), 0);
        Check.due("7 nine lengths", Auctions.run(x, "barrel 999 150" + NINE.substring(3) + ";"), 1);
        Check.due("7 nine lengths", x.eels(2), 9);
        Check.due("7 twenty commands", Auctions.run(x, Texts.times(20, "wait1;")), 20);
        Check.due("7 spaces and zeros", Auctions.run(x, "  wait   00000000000000000001 ;pay 00 01;"), 2);
        Texts.scriptError(x, Texts.RANGE, "nod |6;");
        Texts.scriptError(x, Texts.RANGE, "pay |6 1;");
        LowWaterAuction y = Auctions.of("market 5 5 1 1 0;buyer 0 0 1;");
        Texts.scriptError(y, Texts.RANGE, "nod |1;");
        Check.due("7 a nod of the only buyer", Auctions.run(y, "nod 0;"), 0);
    }

    private static void syntaxErrors() {
        String[] marked = {
            "|;", "|5", "   |x", "|nods 0;", "|nodz 0;", "|anod 0;", "|xod 0;", "|no 0;", "|NOD 0;", "|fund 0 1;", "nod|", "nod |;", "nod |x;", "nod 0|",
            "nod 0 |0;", "nod 0;|5", "nod 0;|;", "wait 1;|market 5 5 1 1 0;", "wait|#1;", "wait 1|#;", "wait |-1;",
            "pay 0|", "pay 0 |;", "split 0|;", "split 0 1 |1;", "withdraw |x;", "withdraw 0 |0;", "barrel|;",
            "barrel 1|;", "barrel 1|", "barrel 1 10|", "barrel 1" + NINE + "|wait", "wait 1; |waitnod 0;",
            Texts.times(20, "wait 1;") + "|;", Texts.times(20, "wait 1;") + "|waits 1;",
            Texts.times(20, "wait 1;") + "|7", Texts.times(20, "wait 1;") + "  |?",
        };
        Texts.badScripts(Texts.SYNTAX, marked);
    }

    private static void rangeErrors() {
        String[] marked = {
            "nod |3;", "wait |0;", "wait |201;", "wait |00000201;", "wait |4294967297;", "split |20 1;", "split 0 |0;",
            "split 0 |9;", "pay |3 1;", "pay 0 |0;", "pay 0 |10000;", "withdraw |20;", "barrel |0 10;",
            "barrel |1000 10;", "barrel 1 |9;", "barrel 1 |151;", "barrel 1" + NINE + " |151;", "wait |0; x",
            "wait 1; wait |0;",
        };
        Texts.badScripts(Texts.RANGE, marked);
    }

    private static void limitErrors() {
        Texts.badScripts(Texts.LIMIT, Texts.times(20, "wait 1;") + "|wait 1;");
        Texts.badScripts(Texts.LIMIT, Texts.times(20, "wait 1;") + " |nod");
        Texts.badScripts(Texts.LIMIT, Texts.times(20, "wait 1;") + "|barrel 0;");
        Texts.badScripts(Texts.LIMIT, "barrel 1" + NINE + " |10;");
    }
}
