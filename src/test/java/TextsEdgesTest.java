/** The boundary cases of texts, setups and scripts: each sentence of the grammar has tests of its own. */
final class TextsEdgesTest {
    private static final int NONE = Edges.NONE;
    private static final int SYNTAX = Edges.SYNTAX;
    private static final int RANGE = Edges.RANGE;
    private static final int LIMIT = Edges.LIMIT;
    private static final String M = Edges.MARKET;
    private static final String B = Edges.BUYER;
    private static final String EEL = Edges.EEL;
    private static final String NINE = Edges.NINE;
    private static final String TWENTY_WAITS = "wait 1;".repeat(20);

    private TextsEdgesTest() {
    }

    public static void main(String[] args) {
        tokens();
        grammar();
        ranges();
        positions();
        codes();
        execution();
        Check.finish();
    }

    private static void tokens() {
        Edges.holds("Texts", "The input buffer holds bytes.", TextsEdgesTest::allBytes);
        Edges.holds("Texts", "A token is a word (a maximal run of the letters a to z), a number (a maximal run of the digits"
            + " 0 to 9, of any length, leading zeros allowed), or a semicolon.", TextsEdgesTest::letters, TextsEdgesTest::digits,
            TextsEdgesTest::maximalRuns, TextsEdgesTest::longNumbers, TextsEdgesTest::leadingZeros);
        Edges.holds("Texts", "Spaces (byte 32) may stand before, between and after tokens and have no other meaning.",
            TextsEdgesTest::spaces, TextsEdgesTest::otherBlanks, TextsEdgesTest::spacesInTokens);
        Edges.holds("Texts", "A word and a number need no space between them.", TextsEdgesTest::noSpaces);
    }

    private static void grammar() {
        Edges.holds("Texts", "setup   = \"market\" PERIOD LOW PATIENCE STEP FEE \";\" \"buyer\" PURSE STYLE FACTOR \";\""
            + " { \"buyer\" PURSE STYLE FACTOR \";\" } { BARREL \";\" }", TextsEdgesTest::leastSetup,
            TextsEdgesTest::greatestSetup, TextsEdgesTest::shortSetups, TextsEdgesTest::longSetups);
        Edges.holds("Texts", "BARREL  = \"barrel\" RESERVE LENGTH { LENGTH }", TextsEdgesTest::lengthsOfBarrels);
        Edges.holds("Texts", "script  = { command \";\" }", TextsEdgesTest::emptyScripts, TextsEdgesTest::semicolons);
        Edges.holds("Texts", "command = \"nod\" BUYER | \"wait\" MINUTES | \"split\" BARRELNUMBER EELS | \"pay\" BUYER COINS |"
            + " \"withdraw\" BARRELNUMBER | BARREL", TextsEdgesTest::numbersOfCommands, TextsEdgesTest::wordsOfCommands);
    }

    private static void ranges() {
        Edges.holds("Texts", "LOW is 1 to PERIOD, PURSE 0 to 9999, STYLE 0 to 4, MINUTES 1 to 200, EELS 1 to 8, COINS 1 to"
            + " 9999, BUYER the number of a buyer, and BARRELNUMBER 0 to 19.", TextsEdgesTest::low, TextsEdgesTest::purse,
            TextsEdgesTest::style, TextsEdgesTest::minutes, TextsEdgesTest::eels, TextsEdgesTest::coins, TextsEdgesTest::buyer,
            TextsEdgesTest::barrelNumber);
        Edges.holds("Texts", "PERIOD, PATIENCE, STEP, FEE, FACTOR, RESERVE and LENGTH have the ranges given above.",
            TextsEdgesTest::period, TextsEdgesTest::patience, TextsEdgesTest::step, TextsEdgesTest::fee, TextsEdgesTest::factor,
            TextsEdgesTest::reserve, TextsEdgesTest::length);
    }

    private static void positions() {
        Edges.holds("Texts", "The parser reads the text from left to right and stops at the first token with an error.",
            TextsEdgesTest::firstOfErrors);
        Edges.holds("Texts", "The error position is the index of the first byte of that token.", TextsEdgesTest::firstByte,
            TextsEdgesTest::firstAndLastByteOfTheBuffer);
        Edges.holds("Texts", "If the text ends too early, the position is the length of the text.", TextsEdgesTest::earlyEnds,
            TextsEdgesTest::earlyEndsOfFullBuffer);
        Edges.holds("Texts", "If several errors apply to one token, the one with the smallest code is reported.",
            TextsEdgesTest::syntaxBeforeLimit, TextsEdgesTest::rangeBeforeLimit);
    }

    private static void codes() {
        Edges.holds("Texts", "SYNTAX: a token that the grammar does not allow at this place, a byte that belongs to no token,"
            + " or the end of the text at a place where it must not end.", TextsEdgesTest::strangeBytes,
            TextsEdgesTest::tokensOutOfPlace);
        Edges.holds("Texts", "RANGE: a number outside its range.", TextsEdgesTest::hugeNumbers);
        Edges.holds("Texts", "LIMIT: the word \"buyer\" of a 7th buyer, the word \"barrel\" of a 21st barrel of a setup, a 10th"
            + " LENGTH, if it is a number; the first word of a 21st command.", TextsEdgesTest::seventhBuyer,
            TextsEdgesTest::barrel21, TextsEdgesTest::tenthLength, TextsEdgesTest::command21);
    }

    private static void execution() {
        Edges.holds("Texts", "A script without an error is executed command by command.", TextsEdgesTest::commandByCommand);
        Edges.holds("Texts", "The commands work like the methods nod, passMinutes, split, fund and withdraw.",
            TextsEdgesTest::edgesOfPay, TextsEdgesTest::edgesOfSplit, TextsEdgesTest::edgesOfWait);
        Edges.holds("Texts", "The command BARREL adds a barrel with these eels at the end of the queue; it cannot be executed"
            + " if there are 20 barrels.", TextsEdgesTest::barrelInEmptyQueue, TextsEdgesTest::barrel20And21);
        Edges.holds("Texts", "Execution ends before the first command that cannot be executed, or for which its method would"
            + " throw an exception.", TextsEdgesTest::nodsEnd, TextsEdgesTest::splitsEnd, TextsEdgesTest::withdrawalsEnd,
            TextsEdgesTest::whatStandsBehind, TextsEdgesTest::endingAtTheFirst);
    }

    // ---- tokens

    /** Behind a fee, only a space, a semicolon and the digits are no error: each other byte begins a wrong token. */
    private static void allBytes() {
        for (int b = 0; b < 256; b++) {
            boolean isFine = b == ' ' || b == ';' || b >= '0' && b <= '9';
            LowWaterAuction x = new LowWaterAuction();
            Auctions.feed(x, "market 60 60 9 1 0" + (char) b);
            Check.dueThrow("byte " + b, Edges.ARGUMENT, x::loadSetup);
            Check.due("code of byte " + b, x.errorCode(), SYNTAX);
            Check.due("position of byte " + b, x.errorPosition(), isFine ? 19 : 18);
        }
    }

    private static void letters() {
        Texts.badSetups(SYNTAX, "|`market 60 60 9 1 0;" + B, "|{market 60 60 9 1 0;" + B, "market|` 60 60 9 1 0;" + B,
            "market|{ 60 60 9 1 0;" + B, "|Market 60 60 9 1 0;" + B, "|MARKET 60 60 9 1 0;" + B, "|amarket 60 60 9 1 0;" + B,
            "|marketa 60 60 9 1 0;" + B, "|zmarket 60 60 9 1 0;" + B, "|marketz 60 60 9 1 0;" + B,
            "market|A 60 60 9 1 0;" + B, "market|Z 60 60 9 1 0;" + B);
        Texts.badScripts(SYNTAX, "|Nod 0;", "wait|_ 1;", "|Z 1;", "|@wait 1;", "wait|[1;", "wait|A 1;", "wait|Z 1;");
    }

    private static void digits() {
        Texts.badScripts(SYNTAX, "wait |/1;", "wait |:1;", "wait 1|/;", "wait 1|:;", "wait |-1;", "wait |+1;", "wait 1|.0;",
            "wait 1|,0;");
        Texts.goodScripts(1, "wait 10;", "wait 19;", "wait 109;", "wait 190;");
    }

    private static void maximalRuns() {
        Texts.badScripts(SYNTAX, "|waitwait 1;", "|wai t 1;", "wait 1 |0;", "wait 10 |0;", "pay 0|;");
        Texts.badScripts(RANGE, "wait |2010;", "pay |01000;");
        Texts.goodScripts(2, "wait 1;wait 1;", "wait 1 ; wait 1 ;");
    }

    private static void longNumbers() {
        LowWaterAuction x = new LowWaterAuction();
        Check.due("488 zeros and a digit", Auctions.run(x, "wait " + "0".repeat(488) + "7;"), 1);
        Check.due("minutes", x.minute(), 7);
        Texts.badScripts(RANGE, "wait |" + "9".repeat(490) + ";", "wait |" + "0".repeat(480) + "201;",
            "wait |1" + "0".repeat(480) + ";");
    }

    private static void leadingZeros() {
        LowWaterAuction x = Auctions.of("market 060 0000059 09 050 00;buyer 00000 04 0999;barrel 0001 010 00150;");
        Check.due("period and low water", x.minutesToHorn(), 59);
        Check.due("step", x.step(), 50);
        Check.due("purse", x.purse(0), 0);
        Check.due("factor", x.factor(0), 999);
        Check.due("lengths", Auctions.lengths(x, 0), "[10, 150]");
        Texts.goodScripts(1, "pay 000 009999;", "split 00 01;", "withdraw 00;", "wait 0200;");
        Texts.badScripts(RANGE, "wait |000;", "split |0020 1;", "split 0 |000;", "pay 0 |0000;", "pay 0 |010000;");
    }

    private static void spaces() {
        String tight = "market5 5 1 1 0;buyer0 0 1;barrel1 10;";
        String wide = "   market   5   5   1   1   0   ;   buyer   0   0   1   ;   barrel   1   10   ;   ";
        Check.due("spaces everywhere", Auctions.state(Auctions.of(wide)), Auctions.state(Auctions.of(tight)));
        Texts.goodScripts(1, " wait 1;", "wait 1; ", "wait 1 ;", "wait  1;", "    wait    1    ;    ");
        Texts.goodScripts(0, " ", " ".repeat(500));
        Texts.goodScripts(1, " ".repeat(493) + "wait 1;");
        Texts.goodScripts(1, "wait 1;" + " ".repeat(493));
    }

    private static void otherBlanks() {
        for (int blank : new int[] {0, 9, 10, 11, 12, 13, 31, 33, 127, 160}) {
            Texts.badScripts(SYNTAX, "wait|" + (char) blank + "1;", "|" + (char) blank + "wait 1;", "wait 1;|" + (char) blank);
        }
    }

    private static void spacesInTokens() {
        Texts.badScripts(SYNTAX, "|w ait 1;", "|wai t 1;", "|with draw 0;", "wait 1 |1;");
    }

    private static void noSpaces() {
        Texts.goodScripts(5, "wait1;nod2;pay0 1;split1 1;withdraw2;");
        Texts.goodScripts(1, "barrel999 10 20;");
        Texts.goodSetups("market60 60 9 1 0;buyer0 0 1;", "market60 60 9 1 0;buyer0 0 1;barrel1 10;");
        Texts.badScripts(SYNTAX, "wait 1|nod 0;", "wait1|wait;", "|1wait;");
    }

    // ---- grammar

    private static void leastSetup() {
        LowWaterAuction x = new LowWaterAuction();
        Auctions.feed(x, "market 5 1 1 1 0;buyer 0 0 1;");
        Check.due("barrels", x.loadSetup(), 0);
        Check.due("buyers", x.buyerCount(), 1);
    }

    private static void greatestSetup() {
        LowWaterAuction x = new LowWaterAuction();
        Auctions.feed(x, "market 60 60 9 50 50;" + "buyer9999 4 999;".repeat(6) + "barrel999 150;".repeat(20));
        Check.due("barrels", x.loadSetup(), 20);
        Check.due("buyers", x.buyerCount(), 6);
        Check.due("the last of them", x.purse(5), 9999);
        Check.due("the last barrel", Auctions.lengths(x, 19), "[150]");
    }

    private static void shortSetups() {
        Texts.badSetups(SYNTAX, "|", "market|", "market |;", "market 5|", "market 5 |;", "market 5 5|", "market 5 5 |;",
            "market 5 5 1|", "market 5 5 1 |;", "market 5 5 1 1|", "market 5 5 1 1 |;", "market 5 5 1 1 0|",
            "market 5 5 1 1 0|buyer 0 0 1;", "market 5 5 1 1 0;|", "market 5 5 1 1 0;|;", "market 5 5 1 1 0;|" + EEL);
        Texts.badSetups(SYNTAX, M + "buyer|", M + "buyer|;", M + "buyer 0|", M + "buyer 0|;", M + "buyer 0 0|", M + "buyer 0 0|;",
            M + "buyer 0 0 1|", M + "buyer 0 0 1|buyer 0 0 1;", M + B + "buyer|", M + B + "buyer 0 0|;", M + B + "buyer 0 0 1|");
        Texts.badSetups(SYNTAX, M + B + "barrel|", M + B + "barrel|;", M + B + "barrel 1|", M + B + "barrel 1|;",
            M + B + "barrel 1 10|", M + B + EEL + "barrel|", M + B + EEL + "barrel 1 10|");
    }

    private static void longSetups() {
        Texts.badSetups(SYNTAX, "market 5 5 1 1 0 |0;" + B, M + "buyer 0 0 1 |1;", M + "|;" + B, M + B + "|;", M + B + "|1",
            M + B + "|x", M + B + EEL + "|;", M + B + EEL + "|1", M + B + EEL + "|" + M, M + B + EEL + "|" + B,
            M + B + "|" + M, "|" + B + M, "|" + EEL + M + B, M + B + "|wait 1;");
    }

    private static void lengthsOfBarrels() {
        Texts.badScripts(SYNTAX, "barrel|;", "barrel|", "barrel 1|;", "barrel 1|", "barrel 1 |x;", "barrel 1 10|", "barrel 1 10 |x;");
        Texts.badScripts(LIMIT, "barrel 1" + NINE + " |10;");
        Texts.goodScripts(1, "barrel 1 10;", "barrel 1" + NINE + ";");
        Texts.goodSetups(M + B + EEL, M + B + "barrel 1" + NINE + ";");
    }

    private static void emptyScripts() {
        Texts.goodScripts(0, "", "  ");
        Texts.goodScripts(1, "wait 1;");
        Texts.goodScripts(20, TWENTY_WAITS);
    }

    private static void semicolons() {
        Texts.badScripts(SYNTAX, "|;", "wait 1|", "wait 1 |wait 1;", "wait 1;|;", "wait 1;wait 1|", TWENTY_WAITS + "|;",
            "wait 1;".repeat(19) + "wait 1|");
    }

    private static void numbersOfCommands() {
        Texts.badScripts(SYNTAX, "nod|", "nod|;", "nod 0 |0;", "wait|", "wait|;", "wait 1 |1;", "split|;", "split 0|;", "split 0|",
            "split 0 1 |1;", "pay|;", "pay 0|;", "pay 0|", "pay 0 1 |1;", "withdraw|", "withdraw|;", "withdraw 0 |0;");
        Texts.goodScripts(4, "wait 1;nod 0;pay 0 1;withdraw 2;");
    }

    private static void wordsOfCommands() {
        Texts.badScripts(SYNTAX, "|no 0;", "|nods 0;", "|wai 1;", "|waits 1;", "|spli 0 1;", "|splits 0 1;", "|pa 0 1;",
            "|pays 0 1;", "|withdra 0;", "|withdraws 0;", "|barre 1 10;", "|barrels 1 10;", "|market 5 5 1 1 0;", "|" + B,
            "|fund 0 1;", "|undo;", "|0;");
        Texts.badScripts(SYNTAX, "|mod 0;", "|nid 0;", "|noe 0;", "|bait 1;", "|waiu 1;", "|aplit 0 1;", "|splis 0 1;",
            "|say 0 1;", "|paz 0 1;", "|vithdraw 0;", "|withdrav 0;", "|carrel 1 10;", "|barrem 1 10;");
        Texts.badSetups(SYNTAX, "|larket 5 5 1 1 0;" + B, "|markes 5 5 1 1 0;" + B, M + "|auyer 0 0 1;", M + "|buyes 0 0 1;",
            M + B + "|cuyer 0 0 1;", M + B + "|aarrel 1 10;", M + B + "|barrek 1 10;");
    }

    // ---- ranges

    private static void low() {
        Texts.badSetups(RANGE, "market 5 |0 1 1 0;" + B, "market 5 |6 1 1 0;" + B, "market 60 |61 1 1 0;" + B);
        Texts.goodSetups("market 5 1 1 1 0;" + B, "market 5 5 1 1 0;" + B, "market 60 60 1 1 0;" + B, "market 60 1 1 1 0;" + B);
    }

    private static void purse() {
        Texts.badSetups(RANGE, M + "buyer |10000 0 1;");
        LowWaterAuction x = Auctions.of(M + "buyer 0 0 1;buyer 9999 0 1;");
        Check.due("the least", x.purse(0), 0);
        Check.due("the greatest", x.purse(1), 9999);
    }

    private static void style() {
        Texts.badSetups(RANGE, M + "buyer 0 |5 1;", M + "buyer 0 |10 1;");
        LowWaterAuction x = Auctions.of(M + "buyer 0 0 1;buyer 0 4 1;");
        Check.due("the least", x.style(0), 0);
        Check.due("the greatest", x.style(1), 4);
    }

    private static void minutes() {
        Texts.badScripts(RANGE, "wait |0;", "wait |201;");
        Texts.goodScripts(1, "wait 1;", "wait 200;");
    }

    private static void eels() {
        Texts.badScripts(RANGE, "split 0 |0;", "split 0 |9;");
        LowWaterAuction x = Auctions.of(M + B + "barrel 1" + NINE + ";");
        Check.due("one eel, and as many as are left but one", Auctions.run(x, "split 0 1;split 0 7;"), 2);
        LowWaterAuction y = Auctions.of(M + B + "barrel 1" + NINE + ";");
        Check.due("eight eels", Auctions.run(y, "split 0 8;"), 1);
    }

    private static void coins() {
        Texts.badScripts(RANGE, "pay 0 |0;", "pay 0 |10000;");
        Texts.goodScripts(1, "pay 0 1;", "pay 0 9999;");
    }

    private static void buyer() {
        Texts.badScripts(RANGE, "nod |3;", "pay |3 1;", "nod |6;", "pay |99999999999 1;");
        Texts.goodScripts(4, "pay 0 1;pay 2 1;wait 1;nod 2;");
        LowWaterAuction one = Auctions.of(M + B);
        Texts.scriptError(one, RANGE, "pay |1 1;");
        Texts.scriptError(one, RANGE, "nod |1;");
        LowWaterAuction six = Auctions.of(M + B.repeat(6) + EEL);
        Texts.scriptError(six, RANGE, "pay |6 1;");
        Texts.scriptError(six, RANGE, "nod |6;");
        Check.due("the last of six", Auctions.run(six, "pay 5 1;wait 1;nod 5;"), 3);
    }

    private static void barrelNumber() {
        Texts.badScripts(RANGE, "withdraw |20;", "split |20 1;");
        Texts.goodScripts(0, "withdraw 19;", "split 19 1;", "withdraw 3;", "split 3 1;");
        Check.due("the last of twenty", Auctions.run(Edges.twenty(), "withdraw 19;"), 1);
        Check.due("the first of twenty", Auctions.run(Edges.twenty(), "withdraw 0;"), 1);
    }

    private static void period() {
        Texts.badSetups(RANGE, "market |4 4 1 1 0;" + B, "market |61 5 1 1 0;" + B, "market |0 1 1 1 0;" + B);
        Texts.goodSetups("market 5 5 1 1 0;" + B, "market 60 5 1 1 0;" + B);
    }

    private static void patience() {
        Texts.badSetups(RANGE, "market 5 5 |0 1 0;" + B, "market 5 5 |10 1 0;" + B);
        Texts.goodSetups("market 5 5 1 1 0;" + B, "market 5 5 9 1 0;" + B);
    }

    private static void step() {
        Texts.badSetups(RANGE, "market 5 5 1 |0 0;" + B, "market 5 5 1 |51 0;" + B);
        Texts.goodSetups("market 5 5 1 1 0;" + B, "market 5 5 1 50 0;" + B);
    }

    private static void fee() {
        Texts.badSetups(RANGE, "market 5 5 1 1 |51;" + B, "market 5 5 1 1 |100;" + B);
        Texts.goodSetups("market 5 5 1 1 0;" + B, "market 5 5 1 1 50;" + B);
    }

    private static void factor() {
        Texts.badSetups(RANGE, M + "buyer 0 0 |0;", M + "buyer 0 0 |1000;", M + B + "buyer 0 0 |0;", M + B + "buyer 0 0 |1000;");
        Texts.goodSetups(M + "buyer 0 0 1;", M + "buyer 0 0 999;");
    }

    private static void reserve() {
        Texts.badSetups(RANGE, M + B + "barrel |0 10;", M + B + "barrel |1000 10;");
        Texts.badScripts(RANGE, "barrel |0 10;", "barrel |1000 10;");
        Texts.goodSetups(M + B + "barrel 1 10;", M + B + "barrel 999 10;");
        Texts.goodScripts(1, "barrel 1 10;", "barrel 999 10;");
    }

    private static void length() {
        Texts.badSetups(RANGE, M + B + "barrel 1 |9;", M + B + "barrel 1 |151;", M + B + "barrel 1 10 |9;",
            M + B + "barrel 1" + NINE.substring(3) + " |9;", M + B + "barrel 1" + NINE.substring(3) + " |151;");
        Texts.badScripts(RANGE, "barrel 1 |9;", "barrel 1 |151;", "barrel 1 10 |0;");
        Texts.goodSetups(M + B + "barrel 1 10;", M + B + "barrel 1 150;", M + B + "barrel 1 150 10;");
        Texts.goodScripts(1, "barrel 1 10;", "barrel 1 150;", "barrel 1 10 150;");
    }

    // ---- positions and codes

    private static void firstOfErrors() {
        Texts.badScripts(RANGE, "wait |0 x", "wait |0;#", "wait |201;;", "wait 1;wait |0;wait", "split |20 9;", "pay |3 0;");
        Texts.badScripts(SYNTAX, "wait |x 0;", "wait 1|#wait 0;", "wait 1;|;wait 0;", "|#wait 0;");
        Texts.badSetups(RANGE, "market |4 0 0 0 51;", "market 5 |6 0 x", M + "buyer |10000 5 0", M + B + "barrel |0 9");
        Texts.badSetups(SYNTAX, "|mark 4 6 0;", M + "|barrel 0 9;" + B.repeat(7));
    }

    private static void firstByte() {
        Texts.badScripts(RANGE, "wait     |0000000201    ;");
        Texts.badScripts(SYNTAX, "     |waiting 1;", "wait 1     |waiting", "wait 1;     |;");
        Texts.badScripts(LIMIT, TWENTY_WAITS + "     |withdraw 0;");
    }

    private static void firstAndLastByteOfTheBuffer() {
        LowWaterAuction x = new LowWaterAuction();
        Auctions.feed(x, ";" + " ".repeat(499));
        Check.dueThrow("a semicolon as first byte", Edges.ARGUMENT, x::runScript);
        Check.due("position 0", x.errorPosition(), 0);
        Auctions.feed(x, " ".repeat(499) + ";");
        Check.dueThrow("a semicolon as last byte", Edges.ARGUMENT, x::runScript);
        Check.due("position 499", x.errorPosition(), 499);
    }

    private static void earlyEnds() {
        Texts.badSetups(SYNTAX, "|", " |", "   |", "market|", "market |", M + "|", M + "   |", M + B + "barrel 1 10   |");
        Texts.badScripts(SYNTAX, "wait|", "wait |", "wait   |", "wait 1|", "wait 1   |", "wait 1;wait|");
    }

    private static void earlyEndsOfFullBuffer() {
        LowWaterAuction x = new LowWaterAuction();
        Auctions.feed(x, " ".repeat(496) + "wait");
        Check.dueThrow("a word at the end of 500 bytes", Edges.ARGUMENT, x::runScript);
        Check.due("position behind the word", x.errorPosition(), 500);
        Auctions.feed(x, "wait 1" + " ".repeat(494));
        Check.dueThrow("spaces at the end of 500 bytes", Edges.ARGUMENT, x::runScript);
        Check.due("position behind the spaces", x.errorPosition(), 500);
        Auctions.feed(x, " ".repeat(500));
        Check.dueThrow("500 spaces as a setup", Edges.ARGUMENT, x::loadSetup);
        Check.due("position behind the spaces", x.errorPosition(), 500);
        Check.due("code", x.errorCode(), SYNTAX);
    }

    private static void syntaxBeforeLimit() {
        Texts.badScripts(SYNTAX, TWENTY_WAITS + "|waits 1;", TWENTY_WAITS + "|buyer 0 0 1;", TWENTY_WAITS + "|1",
            TWENTY_WAITS + "|;", TWENTY_WAITS + "|#");
        Texts.badSetups(SYNTAX, M + B.repeat(6) + "|buyers", M + B + EEL.repeat(20) + "|barrels", M + B + EEL.repeat(20) + "|" + B,
            M + B.repeat(6) + EEL + "|" + B);
    }

    private static void rangeBeforeLimit() {
        Texts.badSetups(RANGE, M + B + "barrel 1" + NINE + " |9;", M + B + "barrel 1" + NINE + " |151;");
        Texts.badScripts(RANGE, "barrel 1" + NINE + " |9;", "barrel 1" + NINE + " |151;", "barrel 1" + NINE + " |0");
    }

    private static void strangeBytes() {
        for (int strange : new int[] {0, 9, 31, 33, 47, 58, 60, 64, 65, 90, 91, 96, 123, 127, 128, 160, 255}) {
            Texts.badSetups(SYNTAX, "|" + (char) strange, M + B + "|" + (char) strange);
            Texts.badScripts(SYNTAX, "|" + (char) strange, "wait 1;|" + (char) strange, "wait |" + (char) strange,
                "wait 1|" + (char) strange + ";");
        }
    }

    private static void tokensOutOfPlace() {
        Texts.badScripts(SYNTAX, "|1;", "|;", "wait |wait;", "wait |;", "wait 1 |1;", "wait 1 |wait;", "pay 0 |pay;");
        Texts.badSetups(SYNTAX, "|1", "|;", "|buyer 0 0 1;", "market |market", "market 5 |market", "market 5 5 1 1 0 |market");
    }

    private static void hugeNumbers() {
        Texts.badScripts(RANGE, "wait |2147483648;", "wait |4294967297;", "wait |18446744073709551617;", "nod |4294967296;",
            "split |4294967296 1;", "pay 0 |4294967297;");
        Texts.badSetups(RANGE, "market |4294967356 60 9 1 0;" + B, M + "buyer |4294967296 0 1;",
            M + B + "barrel 1 |4294967306;");
    }

    private static void seventhBuyer() {
        Texts.badSetups(LIMIT, M + B.repeat(6) + "|" + B, M + B.repeat(6) + "|buyer", M + B.repeat(6) + "  |buyer x",
            M + B.repeat(6) + "|buyer0 0 1");
        Texts.goodSetups(M + B.repeat(6), M + B.repeat(6) + EEL);
    }

    private static void barrel21() {
        Texts.badSetups(LIMIT, M + B + EEL.repeat(20) + "|" + EEL, M + B + EEL.repeat(20) + "|barrel", M + B + EEL.repeat(20)
            + "  |barrel 0 9");
        Texts.goodSetups(M + B + EEL.repeat(20));
        Check.due("a BARREL too many is no error of a script", Auctions.run(Edges.twenty(), EEL), 0);
        Texts.goodScripts(17, EEL.repeat(18));
    }

    private static void tenthLength() {
        Texts.badSetups(LIMIT, M + B + "barrel 1" + NINE + " |10;", M + B + "barrel 1" + NINE + " |150", M + B + "barrel 1" + NINE
            + " |10 10");
        Texts.badScripts(LIMIT, "barrel 1" + NINE + " |10;", "barrel 1" + NINE + " |150", "barrel 1" + NINE + "   |0010;");
        Texts.badScripts(SYNTAX, "barrel 1" + NINE + " |x", "barrel 1" + NINE + "|", "barrel 1" + NINE + " |#");
    }

    private static void command21() {
        for (String word : new String[] {"nod", "wait", "split", "pay", "withdraw", "barrel"}) {
            Texts.badScripts(LIMIT, TWENTY_WAITS + "|" + word, TWENTY_WAITS + " |" + word + " 0;");
        }
        Texts.goodScripts(20, TWENTY_WAITS, TWENTY_WAITS + "  ");
    }

    // ---- execution

    private static void commandByCommand() {
        LowWaterAuction x = Auctions.of("market 60 60 1 1 0;buyer 0 0 1;");
        Check.due("each needs the ones before it", Auctions.run(x, "barrel 3 10 20;split 0 1;wait 1;pay 0 2;nod 0;withdraw 1;"), 6);
        Check.due("queue", x.queueLength(), 0);
        Check.due("bid", x.bid(), 2);
        LowWaterAuction y = Auctions.of("market 60 60 1 1 0;buyer 0 0 1;");
        Check.due("in another order", Auctions.run(y, "barrel 3 10 20;split 0 1;wait 1;nod 0;pay 0 2;"), 3);
    }

    private static void edgesOfPay() {
        LowWaterAuction x = Auctions.of(M + "buyer 9999 0 1;");
        Check.due("ten payments", Auctions.run(x, "pay 0 9999;".repeat(10)), 10);
        Check.due("what exceeds 99999 is not put in", x.purse(0), 99999);
        Check.due("no coin is lost", x.coinError(), 0);
        Check.due("a payment into a full purse", Auctions.run(x, "pay 0 1;pay 0 1;"), 2);
        Check.due("the full purse", x.purse(0), 99999);
    }

    private static void edgesOfSplit() {
        LowWaterAuction x = Auctions.of(M + B + "barrel 1 10 20;");
        Check.due("the last eel but one", Auctions.run(x, "split 0 1;"), 1);
        Check.due("the rest", Auctions.lengths(x, 0), "[10]");
        Check.due("the least reserve of the rest", x.reserve(0), 1);
        Check.due("the least reserve", x.reserve(1), 1);
    }

    private static void edgesOfWait() {
        LowWaterAuction x = new LowWaterAuction();
        Check.due("twenty times 200 minutes", Auctions.run(x, "wait 200;".repeat(20)), 20);
        Check.due("minutes", x.minute(), 4000);
        Check.due("sold", x.sellerCoins(), 70);
    }

    private static void barrelInEmptyQueue() {
        LowWaterAuction x = Auctions.of(M + B);
        Check.due("executed", Auctions.run(x, "barrel 5 30 20 10;barrel 6 40;"), 2);
        Check.due("queue", Auctions.queue(x), "[0, 1]");
        Check.due("the eels in their order", Auctions.lengths(x, 0), "[30, 20, 10]");
        Check.due("the eels of the second one", Auctions.lengths(x, 1), "[40]");
    }

    private static void barrel20And21() {
        LowWaterAuction x = Auctions.of(M + B + EEL.repeat(19));
        Check.due("a 20th and a 21st barrel", Auctions.run(x, "barrel 7 30;barrel 8 40;pay 0 1;"), 1);
        Check.due("barrels", x.barrelCount(), 20);
        Check.due("the last of the queue", x.queuedBarrel(19), 19);
        Check.due("nothing more is executed", x.purse(0), 100);
    }

    private static void nodsEnd() {
        LowWaterAuction closed = Auctions.of("market 5 1 9 1 0;" + B + EEL);
        Check.due("a closed market", Auctions.run(closed, "wait 1;nod 0;wait 1;"), 1);
        Check.due("minutes", closed.minute(), 1);
        Texts.goodScripts(0, "nod 0;", "nod 0;wait 1;");
        Texts.goodScripts(2, "wait 1;nod 2;nod 2;");
        LowWaterAuction poor = Auctions.of(M + "buyer 9 0 1;buyer 10 0 1;barrel 10 10;");
        Check.due("a purse too small", Auctions.run(poor, "wait 1;nod 0;nod 1;"), 1);
        Check.due("a purse just large enough", Auctions.run(poor, "nod 1;pay 0 1;nod 0;"), 2);
    }

    private static void splitsEnd() {
        Texts.goodScripts(0, "split 3 1;", "split 19 8;", "split 2 1;", "split 0 3;", "split 0 8;");
        Texts.goodScripts(1, "wait 1;split 0 1;", "wait 4;split 0 1;", "withdraw 0;split 0 1;", "split 0 2;split 0 1;");
        Check.due("twenty barrels", Auctions.run(Edges.twenty(), "split 0 1;"), 0);
    }

    private static void withdrawalsEnd() {
        Texts.goodScripts(0, "withdraw 3;", "withdraw 19;");
        Texts.goodScripts(1, "withdraw 0;withdraw 0;", "wait 1;withdraw 0;", "wait 4;withdraw 0;");
        Texts.goodScripts(3, "withdraw 0;withdraw 1;withdraw 2;withdraw 3;");
    }

    private static void whatStandsBehind() {
        LowWaterAuction x = new LowWaterAuction();
        Check.due("executed", Auctions.run(x, "pay 0 1;nod 0;pay 0 10;"), 1);
        Check.due("what stands before is executed, what stands behind is not", x.purse(0), 201);
        Check.due("no error", x.errorCode(), 0);
        Check.due("no position", x.errorPosition(), NONE);
        Edges.dueBuffered("what was not executed is gone", x, 0);
    }

    private static void endingAtTheFirst() {
        LowWaterAuction x = new LowWaterAuction();
        String before = Auctions.state(x);
        Check.due("executed", Auctions.run(x, "nod 0;wait 1;pay 0 1;"), 0);
        Check.due("state", Auctions.state(x), before);
    }
}
