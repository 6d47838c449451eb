/** Promises 53 to 57: the output, the input and the commands. */
final class TextTests {
    private static final String WRITES = "Writes a turbine to the output, in place of the earlier output: its "
            + "index, \"@\", its row, \",\", its column, \"p\", its rated power, \"=\" and its output; then "
            + "\"<\" and the limit if it is curtailed, \"x\" if it is failed, or \"s\" and the hours left if "
            + "it is in service.";

    // ---- the output

    @Sentence(WRITES)
    static void promise53writeTurbine() {
        WindFarmDispatcher farm = Farms.full(9);
        Check.answers("0@0,0p9=0", () -> Farms.written(farm, 0));
        farm.setWind('N', 12);
        Check.answers("3@0,3p9=90", () -> Farms.written(farm, 3));
        farm.curtail(5, 0);
        Check.answers("5@0,5p9=0<0", () -> Farms.written(farm, 5));
        farm.curtail(11, 9);
        Check.answers("11@3,5p9=9<9", () -> Farms.written(farm, 11));
        farm.setWind('N', 8);
        farm.curtail(10, 90);
        Check.answers("10@3,4p9=72<90", () -> Farms.written(farm, 10));
        farm.fail(11);
        Check.answers("11@3,5p9=0x", () -> Farms.written(farm, 11));
        farm.sendCrew(11, 12);
        Check.answers("11@3,5p9=0s12", () -> Farms.written(farm, 11));
        farm.passHours(3);
        Check.answers("11@3,5p9=0s9", () -> Farms.written(farm, 11));
        farm.passHours(9);
        Check.answers("11@3,5p9=72", () -> Farms.written(farm, 11));
    }

    @Sentence(WRITES)
    static void promise53earlierOutputIsReplaced() {
        WindFarmDispatcher farm = Farms.busy();
        Check.answers("1@1,0p5=20<20", () -> Farms.outputOf(farm));
        farm.writeTurbine(2);
        Check.answers("2@2,0p5=0x", () -> Farms.outputOf(farm));
        farm.writeTurbine(3);
        Check.answers("3@4,5p3=0s5", () -> Farms.outputOf(farm));
        farm.writeTurbine(0);
        Check.answers("0@0,0p9=90", () -> Farms.outputOf(farm));
        Check.outcome(() -> farm.writeTurbine(4));
        Check.answers("0@0,0p9=90", () -> Farms.outputOf(farm));
        farm.fail(0);
        // the output tells of the time of the writing
        Check.answers("0@0,0p9=90", () -> Farms.outputOf(farm));
    }

    @Sentence("An example is \"3@0,5p9=40<40\".")
    static void promise53example() {
        WindFarmDispatcher farm = Farms.empty();
        farm.addTurbine(4, 0, 1);
        farm.addTurbine(4, 2, 1);
        farm.addTurbine(4, 4, 1);
        farm.addTurbine(0, 5, 9);
        farm.setWind('N', 12);
        farm.curtail(3, 40);
        Check.answers("3@0,5p9=40<40", () -> Farms.written(farm, 3));
    }

    @Sentence("Returns the length of the output.")
    static void promise53writeTurbineReturnsTheLength() {
        WindFarmDispatcher farm = Farms.busy();
        Check.answers(10, () -> farm.writeTurbine(0));
        Check.answers(13, () -> farm.writeTurbine(1));
        Check.answers(10, () -> farm.writeTurbine(2));
        Check.answers(11, () -> farm.writeTurbine(3));
        WindFarmDispatcher full = Farms.full(9);
        Check.answers(9, () -> full.writeTurbine(9));
        Check.answers(10, () -> full.writeTurbine(10));
        full.setWind('N', 12);
        full.curtail(11, 90);
        Check.answers(14, () -> full.writeTurbine(11));
    }

    @Sentence("Throws `IndexOutOfBoundsException` if there is no such turbine")
    static void promise53writeTurbineNeedsATurbine() {
        Twins.needTurbine(WindFarmDispatcher::writeTurbine);
    }

    @Sentence({"Returns a character of the output.", "Returns the character."})
    static void promise54outputAt() {
        String due = "1@1,0p5=20<20";
        for (int at = 0; at < due.length(); at++) {
            int index = at;
            Twins.reads(due.charAt(at), Farms::busy, farm -> farm.outputAt(index));
        }
    }

    @Sentence("The output is empty at first.")
    static void promise54outputIsEmptyAtFirst() {
        Check.refuses(Check.INDEX, () -> Farms.empty().outputAt(0));
        Check.answers("", () -> Farms.outputOf(Farms.column()));
    }

    @Sentence("- `index`: the index, from 0")
    static void promise54indexIsFromZero() {
        WindFarmDispatcher farm = Farms.busy();
        Check.answers('1', () -> farm.outputAt(0));
        Check.answers('0', () -> farm.outputAt(12));
        Check.refuses(Check.INDEX, () -> farm.outputAt(-1));
    }

    @Sentence("Throws `IndexOutOfBoundsException` if there is no character at this index")
    static void promise54outputAtNeedsACharacter() {
        Twins.refuseEach(Check.INDEX, Farms::busy, WindFarmDispatcher::outputAt,
                13, -1, 14, 59, 60, 61, Integer.MIN_VALUE, Integer.MAX_VALUE);
        Twins.refuseEach(Check.INDEX, Farms::empty, WindFarmDispatcher::outputAt, 0, -1);
        WindFarmDispatcher farm = Farms.busy();
        farm.writeTurbine(0);
        // a shorter output took the place of a longer one
        Check.answers('0', () -> farm.outputAt(9));
        Check.refuses(Check.INDEX, () -> farm.outputAt(10));
        Check.refuses(Check.INDEX, () -> farm.outputAt(12));
    }

    // ---- the input

    @Sentence("Appends a character to the input.")
    static void promise55appendInput() {
        WindFarmDispatcher farm = Farms.empty();
        Farms.type(farm, "g1");
        farm.appendInput('2');
        farm.appendInput(';');
        farm.appendInput('t');
        farm.appendInput('3');
        Check.answers(2, farm::execute);
        Check.answers(12, farm::gridLimit);
        Check.answers(3, farm::time);
    }

    @Sentence("- `character`: the character, with a code from 32 to 126")
    static void promise55charactersHaveCodesFrom32To126() {
        for (int code = 0; code < 400; code++) {
            char character = (char) code;
            boolean fits = code >= 32 && code <= 126;
            Check.answers(fits ? (Object) 1 : Check.thrown(Check.ARGUMENT),
                    () -> Farms.empty().appendInput(character));
        }
    }

    @Sentence("Returns the length of the input after the call.")
    static void promise55appendInputReturnsTheLength() {
        WindFarmDispatcher farm = Farms.empty();
        for (int length = 1; length <= 60; length++) {
            Check.answers(length, () -> farm.appendInput(' '));
        }
        Check.outcome(farm::execute);
        Check.answers(1, () -> farm.appendInput('d'));
        Check.answers(1, farm::execute);
        Check.answers(1, () -> farm.appendInput('~'));
        Check.answers(3, () -> Farms.busy().appendInput('~'));
    }

    @Sentence("Throws `IllegalArgumentException` if the code is out of range")
    static void promise55appendInputNeedsACode() {
        for (char character : new char[] {0, 9, 10, 31, 127, 128, 160, 255, 256 + 'd', 0x7fff, 0xffff}) {
            Twins.refuses(Check.ARGUMENT, Farms::busy, farm -> farm.appendInput(character));
        }
    }

    @Sentence("Throws `IllegalStateException` if the input has 60 characters")
    static void promise55appendInputNeedsRoom() {
        Twins.Maker filled = () -> {
            WindFarmDispatcher farm = Farms.busyWithoutInput();
            Farms.type(farm, "v;".repeat(29) + "g7");
            return farm;
        };
        Twins.refuses(Check.STATE, filled, farm -> farm.appendInput('7'));
        Twins.refuses(Check.STATE, filled, farm -> farm.appendInput(' '));
        WindFarmDispatcher farm = filled.make();
        Check.refuses(Check.STATE, () -> farm.appendInput(';'));
        Check.answers(30, farm::execute);
        Check.answers(7, farm::gridLimit);
        Check.answers(1, () -> farm.appendInput('v'));
        WindFarmDispatcher almost = Farms.empty();
        Farms.type(almost, "v;".repeat(29) + "v");
        Check.answers(60, () -> almost.appendInput('v'));
    }

    // ---- execute

    @Sentence("Executes the commands of the input, all of them or none.")
    static void promise56executeAllCommands() {
        WindFarmDispatcher farm = Farms.empty();
        Check.answers(8, () -> Farms.run(farm, "a009;a015;wN12;c0:50;f1;s1:2;b0:3*40;t3"));
        WindFarmDispatcher due = Farms.empty();
        due.addTurbine(0, 0, 9);
        due.addTurbine(0, 1, 5);
        due.setWind('N', 12);
        due.curtail(0, 50);
        due.fail(1);
        due.sendCrew(1, 2);
        due.placeBid(0, 3, 40);
        due.passHours(3);
        Check.answers(Farms.dataOf(due), () -> Farms.dataOf(farm));
        Check.answers(0, farm::undo);
        Check.answers(0, farm::turbineCount);
    }

    @Sentence("Executes the commands of the input, all of them or none.")
    static void promise56executeNoCommands() {
        Twins.Use[] calls = {
            farm -> Farms.run(farm, "a111;t3;x"), farm -> Farms.run(farm, "a111;t3;"),
            farm -> Farms.run(farm, "a111;t3;f9"), farm -> Farms.run(farm, "a111;t3;t0;v"),
            farm -> Farms.run(farm, "a111;t3;f2"), farm -> Farms.run(farm, "g1;f0;c0:1;v;a222"),
        };
        for (Twins.Use call : calls) {
            WindFarmDispatcher farm = Farms.busyWithoutInput();
            Check.isTrue("the call throws", Check.outcome(() -> call.on(farm)) instanceof String);
            Check.answers(Farms.dataOf(Farms.busyWithoutInput()), () -> Farms.dataOf(farm));
            Check.answers(2, farm::undo);
        }
    }

    @Sentence("The input is empty after the call, also if an exception is thrown.")
    static void promise56inputIsEmptyAfterTheCall() {
        for (String input : new String[] {"v", "v;v", "v;", "x", "g5;f9", "f2", "v;".repeat(30)}) {
            WindFarmDispatcher farm = Farms.busyWithoutInput();
            Farms.type(farm, input);
            Check.outcome(farm::execute);
            Check.refuses(Check.ARGUMENT, farm::execute);
            Check.answers(0, farm::syntaxErrorOffset);
            Check.answers(1, () -> farm.appendInput('g'));
            Check.answers(2, () -> farm.appendInput('9'));
            Check.answers(1, farm::execute);
            Check.answers(9, farm::gridLimit);
        }
    }

    @Sentence("Returns the number of commands.")
    static void promise56executeReturnsTheNumberOfCommands() {
        for (int commands = 1; commands <= 30; commands++) {
            String input = "d;".repeat(commands - 1) + "v";
            Twins.changes(commands, Farms::busyWithoutInput, farm -> Farms.run(farm, input));
        }
        Twins.changes(4, Farms::busyWithoutInput, farm -> Farms.run(farm, "b000:001*001;b002:050*500;c000:090;wW030"));
    }

    @Sentence("Throws `IllegalArgumentException` if the input has a syntax error; syntaxErrorOffset returns its offset")
    static void promise56executeNeedsASyntax() {
        String[] inputs = {"", ";", "x", "v;", "v;;", "f", "f1234", "c1", "c1:", "wX1", "b1:2*", "a12", "g5;t3;q"};
        int[] offsets = {0, 0, 0, 2, 2, 1, 4, 2, 3, 1, 5, 3, 7};
        for (int at = 0; at < inputs.length; at++) {
            String input = inputs[at];
            WindFarmDispatcher farm = Farms.busyWithoutInput();
            String rejection = Farms.rejectionOf(farm);
            Check.refuses(Check.ARGUMENT, () -> Farms.run(farm, input));
            Check.answers(offsets[at], farm::syntaxErrorOffset);
            Check.answers(rejection, () -> Farms.rejectionOf(farm));
        }
    }

    @Sentence("Throws `IllegalStateException` if the first command that fails has a turbine, a cell, an hour or a number that "
            + "its method does not accept")
    static void promise56executeNeedsFitNumbers() {
        String[] inputs = {
            "f4", "r4", "u4", "s4:1", "c4:1", "f999", "a501", "a061", "a991", "b24:1*1", "q24", "a330", "s2:0", "s2:13",
            "c0:91", "wN31", "wW999", "b0:0*1", "b0:51*1", "b0:1*0", "b0:1*501", "t0", "t49", "t999",
            "v;g7;f4", "t3;f4;f2", "r3;t0;r3", "f1;f4", "g999;s0:13", "b1:1*0"};
        for (String input : inputs) {
            Twins.refuses(Check.STATE, Farms::busyWithoutInput, farm -> Farms.run(farm, input));
        }
    }

    @Sentence("Throws `UnsupportedOperationException` if the call is rejected with the reason COMMAND_REJECTED")
    static void promise56executeIsRejected() {
        String[] inputs = {"f2", "a001", "s0:1", "r2", "c3:0", "u0", "b1:1*1", "q0", "v;u1", "f0;t3;f0", "f2;f9", "f2;t0"};
        int[] numbers = {0, 0, 0, 0, 0, 0, 0, 0, 1, 2, 0, 0};
        for (int at = 0; at < inputs.length; at++) {
            String input = inputs[at];
            Twins.rejects(WindFarmDispatcher.COMMAND_REJECTED, numbers[at], Farms::busyWithoutInput,
                    farm -> Farms.run(farm, input));
        }
    }

    // ---- syntaxErrorOffset

    @Sentence("Returns the offset of the latest syntax error.")
    static void promise57syntaxErrorOffsetIsTheLatest() {
        WindFarmDispatcher farm = Farms.busyWithoutInput();
        Check.answers(2, farm::syntaxErrorOffset);
        Check.outcome(() -> Farms.run(farm, "d;d;x"));
        Check.answers(4, farm::syntaxErrorOffset);
        // what is no syntax error leaves it
        Farms.run(farm, "v");
        Check.outcome(() -> Farms.run(farm, "f9"));
        Check.outcome(() -> Farms.run(farm, "f2"));
        farm.undo();
        farm.restoreSnapshot();
        Check.answers(4, farm::syntaxErrorOffset);
        Check.outcome(farm::execute);
        Check.answers(0, farm::syntaxErrorOffset);
        Twins.reads(2, Farms::busy, WindFarmDispatcher::syntaxErrorOffset);
    }

    @Sentence("Returns the offset.")
    static void promise57syntaxErrorOffsetOfAFullInput() {
        WindFarmDispatcher farm = Farms.empty();
        Check.refuses(Check.ARGUMENT, () -> Farms.run(farm, "d;".repeat(29) + "dx"));
        Check.answers(59, farm::syntaxErrorOffset);
        Check.refuses(Check.ARGUMENT, () -> Farms.run(farm, "d;".repeat(30)));
        Check.answers(60, farm::syntaxErrorOffset);
        Check.refuses(Check.ARGUMENT, () -> Farms.run(farm, " " + "d".repeat(59)));
        Check.answers(0, farm::syntaxErrorOffset);
    }

    @Sentence("Throws `NoSuchElementException` if there was no syntax error")
    static void promise57syntaxErrorOffsetNeedsAnError() {
        Twins.refuses(Check.ELEMENT, Farms::empty, WindFarmDispatcher::syntaxErrorOffset);
        Twins.Maker executed = () -> {
            WindFarmDispatcher farm = Farms.column();
            Farms.run(farm, "v;d");
            Check.outcome(() -> Farms.run(farm, "f9"));
            Check.outcome(() -> Farms.run(farm, "u0"));
            Farms.type(farm, "x");
            return farm;
        };
        Twins.refuses(Check.ELEMENT, executed, WindFarmDispatcher::syntaxErrorOffset);
    }
}
