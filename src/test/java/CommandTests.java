/** The terms of the commands. */
final class CommandTests {
    private static final String CREWS = "\"f\" and a number lets a turbine fail; \"s\", a number, \":\" and a "
            + "number sends a crew to a turbine for some hours; \"r\" and a number recalls the crew.";
    private static final String LIMITS = "\"c\", a number, \":\" and a number curtails a turbine to a limit; "
            + "\"u\" and a number ends its curtailment.";
    private static final String GRID = "\"g\" and a number sets the grid limit; \"d\" dispatches; \"v\" ends "
            + "the curtailment of all turbines.";
    private static final String BIDS = "\"b\", a number, \":\", a number, \"*\" and a number places a bid for "
            + "an hour with a price and a quantity; \"q\" and a number withdraws the bid for an hour.";
    private static final String OFFSET = "The offset of a syntax error is the index of the first character "
            + "that cannot follow the characters ahead of it in any input; it is the length of the input if "
            + "the input ends too early.";

    // ---- the input

    @Sentence("The input has one or more commands, with \";\" between two of them.")
    static void termsInputHasOneOrMoreCommands() {
        error("", 0);
        Check.answers(1, () -> Farms.run(Farms.empty(), "d"));
        Check.answers(2, () -> Farms.run(Farms.empty(), "d;v"));
        Check.answers(3, () -> Farms.run(Farms.empty(), "g1;g2;g3"));
        Check.answers(30, () -> Farms.run(Farms.empty(), "d;".repeat(29) + "v"));
        Check.answers(15, () -> Farms.run(Farms.empty(), "t10;".repeat(14) + "t001"));
    }

    @Sentence("The input has one or more commands, with \";\" between two of them.")
    static void termsCommandsAreSeparated() {
        error(";", 0);
        error(";d", 0);
        error("d;", 2);
        error("d;;d", 2);
        error("dd", 1);
        error("dv", 1);
        error("d d", 1);
        error("d,d", 1);
        error("d:d", 1);
        error("t1t1", 2);
        error("wN1wN1", 3);
        error("a001a011", 4);
        error("b1:2*3b1:2*3", 6);
        error("c1:2c1:2", 4);
        error("v;d;v;", 6);
    }

    // ---- the commands

    @Sentence("\"a\", a digit, a digit and a digit adds a turbine with a row, a column and a rated power.")
    static void termsCommandToAdd() {
        does("a011", farm -> farm.addTurbine(0, 1, 1));
        does("a249", farm -> farm.addTurbine(2, 4, 9));
        does("a407", farm -> farm.addTurbine(4, 0, 7));
        error("a", 1);
        error("a1", 2);
        error("a12", 3);
        error("a1234", 4);
        error("a:", 1);
        error("a1:2", 2);
        error("a12:", 3);
        error("a123:", 4);
        error("A123", 0);
        unfit("a501");
        unfit("a061");
        unfit("a110");
    }

    @Sentence(CREWS)
    static void termsCommandToFail() {
        does("f0", farm -> farm.fail(0));
        does("f01", farm -> farm.fail(1));
        does("f001", farm -> farm.fail(1));
        numberAlone('f');
        unfit("f4");
        unfit("f999");
    }

    @Sentence(CREWS)
    static void termsCommandToSendACrew() {
        does("s2:1", farm -> farm.sendCrew(2, 1));
        does("s02:12", farm -> farm.sendCrew(2, 12));
        does("s002:007", farm -> farm.sendCrew(2, 7));
        twoNumbers('s');
        unfit("s2:0");
        unfit("s2:13");
        unfit("s4:1");
    }

    @Sentence(CREWS)
    static void termsCommandToRecallTheCrew() {
        does("r3", farm -> farm.recallCrew(3));
        does("r003", farm -> farm.recallCrew(3));
        numberAlone('r');
        unfit("r4");
    }

    @Sentence(LIMITS)
    static void termsCommandToCurtail() {
        does("c0:0", farm -> farm.curtail(0, 0));
        does("c1:90", farm -> farm.curtail(1, 90));
        does("c000:089", farm -> farm.curtail(0, 89));
        twoNumbers('c');
        unfit("c0:91");
        unfit("c4:1");
    }

    @Sentence(LIMITS)
    static void termsCommandToRelease() {
        does("u1", farm -> farm.release(1));
        does("u001", farm -> farm.release(1));
        numberAlone('u');
        unfit("u4");
    }

    @Sentence("\"w\", \"N\", \"E\", \"S\" or \"W\", and a number sets the wind.")
    static void termsCommandToSetTheWind() {
        does("wN11", farm -> farm.setWind('N', 11));
        does("wE0", farm -> farm.setWind('E', 0));
        does("wS30", farm -> farm.setWind('S', 30));
        does("wW007", farm -> farm.setWind('W', 7));
        error("w", 1);
        error("w1", 1);
        error("wn1", 1);
        error("wX1", 1);
        error("wN", 2);
        error("wE:", 2);
        error("wSW1", 2);
        error("wW1234", 5);
        error("wN1:2", 3);
        unfit("wN31");
        unfit("wW999");
    }

    @Sentence(GRID)
    static void termsCommandToSetTheGridLimit() {
        does("g0", farm -> farm.setGridLimit(0));
        does("g99", farm -> farm.setGridLimit(99));
        does("g999", farm -> farm.setGridLimit(999));
        numberAlone('g');
    }

    @Sentence(GRID)
    static void termsCommandToDispatch() {
        Twins.Maker overloaded = () -> {
            WindFarmDispatcher farm = Farms.column();
            farm.setGridLimit(99);
            return farm;
        };
        does("d", overloaded, WindFarmDispatcher::dispatch);
        error("d1", 1);
        error("d:", 1);
        error("D", 0);
    }

    @Sentence(GRID)
    static void termsCommandToReleaseAll() {
        does("v", WindFarmDispatcher::releaseAll);
        error("v1", 1);
        error("v*", 1);
        error("V", 0);
    }

    @Sentence(BIDS)
    static void termsCommandToPlaceABid() {
        does("b0:1*1", farm -> farm.placeBid(0, 1, 1));
        does("b23:50*500", farm -> farm.placeBid(23, 50, 500));
        does("b005:030*040", farm -> farm.placeBid(5, 30, 40));
        error("b", 1);
        error("b:", 1);
        error("b1", 2);
        error("b1*", 2);
        error("b1234", 4);
        error("b1:", 3);
        error("b1:*", 3);
        error("b1:2", 4);
        error("b1:2:", 4);
        error("b1:2345", 6);
        error("b1:2*", 5);
        error("b1:2*x", 5);
        error("b1:2*3*", 6);
        error("b1:2*3456", 8);
        error("b123:456*7890", 12);
        unfit("b24:1*1");
        unfit("b0:0*1");
        unfit("b0:51*1");
        unfit("b0:1*0");
        unfit("b0:1*501");
    }

    @Sentence(BIDS)
    static void termsCommandToWithdrawABid() {
        does("q1", farm -> farm.withdrawBid(1));
        does("q20", farm -> farm.withdrawBid(20));
        does("q001", farm -> farm.withdrawBid(1));
        numberAlone('q');
        unfit("q24");
    }

    @Sentence("\"t\" and a number lets hours pass.")
    static void termsCommandToPassHours() {
        does("t1", farm -> farm.passHours(1));
        does("t48", farm -> farm.passHours(48));
        does("t024", farm -> farm.passHours(24));
        numberAlone('t');
        unfit("t0");
        unfit("t49");
    }

    @Sentence("A number has one to three digits.")
    static void termsNumberHasOneToThreeDigits() {
        String[] commands = {"f#", "r#", "u#", "g#", "q#", "t#", "s#:1", "s1:#", "c#:1", "c1:#", "wN#", "b#:1*1",
            "b1:#*1", "b1:1*#"};
        for (String command : commands) {
            int at = command.indexOf('#');
            error(command.replace("#", ""), at);
            error(command.replace("#", "0001"), at + 3);
            error(command.replace("#", "1234"), at + 3);
            error(command.replace("#", "-1"), at);
            for (String number : new String[] {"0", "7", "00", "42", "000", "007", "999"}) {
                Object got = Check.outcome(() -> Farms.run(Farms.busyWithoutInput(), command.replace("#", number)));
                Check.isTrue(command + " takes " + number, !got.equals(Check.thrown(Check.ARGUMENT)));
            }
        }
    }

    // ---- the offset

    @Sentence(OFFSET)
    static void termsOffsetIsThatOfTheFirstWrongCharacter() {
        for (char sign = ' '; sign <= '~'; sign++) {
            if ("afsrcuwgdvbqt".indexOf(sign) < 0) {
                error(String.valueOf(sign), 0);
                error("d;" + sign, 2);
                error("d;" + sign + "1;x", 2);
            }
            if (sign != ';') {
                error("d" + sign, 1);
                error("g123" + sign, 4);
                error("a999" + sign, 4);
                error("b1:2*345" + sign, 8);
            }
            if (sign < '0' || sign > '9') {
                error("t" + sign, 1);
                error("a" + sign, 1);
                error("a1" + sign, 2);
                error("a12" + sign, 3);
                error("wE" + sign, 2);
                error("c1:" + sign, 3);
                error("b1:2*" + sign, 5);
            }
        }
    }

    @Sentence(OFFSET)
    static void termsOffsetIsThatOfTheEndIfTheInputEndsTooEarly() {
        String[] inputs = {"", "a", "a1", "a12", "f", "s", "s1", "s12", "s123", "s1:", "r", "c", "c1", "c1:", "u", "w",
            "wN", "g", "b", "b1", "b1:", "b1:2", "b1:234", "b1:2*", "q", "t", "d;", "t999;", "d;v;a12", "d;".repeat(29)};
        for (String input : inputs) {
            error(input, input.length());
        }
    }

    /** A number that its method does not accept is no syntax error, and does not hide one. */
    @Sentence(OFFSET)
    static void termsOffsetDoesNotDependOnNumbers() {
        error("t0;q99;x", 7);
        error("f9;f9:", 5);
        error("a999;;", 5);
    }

    // ---- helpers

    /** The signs that can't stand in a command of a letter and a number. */
    private static void numberAlone(char letter) {
        error(letter + "", 1);
        error(letter + ":", 1);
        error(letter + "N", 1);
        error(letter + "1:", 2);
        error(letter + "1:2", 2);
        error(letter + "1*2", 2);
        error(letter + "1234", 4);
        error(Character.toUpperCase(letter) + "1", 0);
    }

    /** The signs that can't stand in a command of a letter and two numbers. */
    private static void twoNumbers(char letter) {
        error(letter + "", 1);
        error(letter + ":1", 1);
        error(letter + "1", 2);
        error(letter + "1*2", 2);
        error(letter + "1:", 3);
        error(letter + "1::", 3);
        error(letter + "1:2:3", 4);
        error(letter + "1:2*3", 4);
        error(letter + "1234:1", 4);
        error(letter + "1:2345", 6);
        error(Character.toUpperCase(letter) + "1:2", 0);
    }

    private static void error(String input, int offset) {
        WindFarmDispatcher farm = Farms.empty();
        Farms.type(farm, input);
        Check.refuses(Check.ARGUMENT, farm::execute);
        Check.answers(offset, farm::syntaxErrorOffset);
    }

    private static void unfit(String input) {
        Check.refuses(Check.STATE, () -> Farms.run(Farms.busyWithoutInput(), input));
    }

    private static void does(String input, Twins.Use method) {
        does(input, Farms::busyWithoutInput, method);
    }

    /** The command does what its method does, and both do something. */
    private static void does(String input, Twins.Maker maker, Twins.Use method) {
        WindFarmDispatcher farm = maker.make();
        WindFarmDispatcher due = maker.make();
        method.on(due);
        Check.answers(1, () -> Farms.run(farm, input));
        Check.answers(Farms.dataOf(due), () -> Farms.dataOf(farm));
        Check.isTrue(input + " does something", !Farms.dataOf(farm).equals(Farms.dataOf(maker.make())));
    }
}
