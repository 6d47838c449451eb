import java.util.NoSuchElementException;

/** Promises 53 to 57: the output, the input and the commands. */
final class TextTests {
    private static final Class<? extends RuntimeException> OUTSIDE = IndexOutOfBoundsException.class;
    private static final Class<? extends RuntimeException> SYNTAX = IllegalArgumentException.class;
    private static final Class<? extends RuntimeException> UNFIT = IllegalStateException.class;
    private static final Class<? extends RuntimeException> REJECTED = UnsupportedOperationException.class;

    static void promise53writeTurbine() {
        WindFarmDispatcher farm = Farms.full(9);
        Check.answers("3@0,3p9=0", () -> Farms.written(farm, 3));
        farm.setWind('N', 12);
        farm.curtail(5, 40);
        Check.answers("5@0,5p9=40<40", () -> Farms.written(farm, 5));
        farm.curtail(5, 0);
        Check.answers("5@0,5p9=0<0", () -> Farms.written(farm, 5));
        farm.setWind('N', 8);
        farm.curtail(10, 90);
        Check.answers("10@3,4p9=72<90", () -> Farms.written(farm, 10));
        farm.curtail(11, 9);
        Check.answers("11@3,5p9=9<9", () -> Farms.written(farm, 11));
        farm.fail(11);
        Check.answers("11@3,5p9=0x", () -> Farms.written(farm, 11));
        farm.sendCrew(11, 12);
        Check.answers("11@3,5p9=0s12", () -> Farms.written(farm, 11));
        farm.passHours(3);
        Check.answers("11@3,5p9=0s9", () -> Farms.written(farm, 11));
        Check.answers(14, () -> farm.writeTurbine(10));
        Farms.isNoChange(farm, () -> farm.writeTurbine(0));
        for (int turbine : new int[] {-1, 12, Integer.MIN_VALUE, Integer.MAX_VALUE}) {
            Farms.refusesAndKeeps(farm, OUTSIDE, () -> farm.writeTurbine(turbine));
        }
    }

    static void promise54outputAt() {
        WindFarmDispatcher farm = Farms.column();
        Farms.refusesAndKeeps(farm, OUTSIDE, () -> farm.outputAt(0));
        farm.curtail(0, 40);
        Check.answers(13, () -> farm.writeTurbine(0));
        Check.answers('0', () -> farm.outputAt(0));
        Check.answers('=', () -> farm.outputAt(7));
        Check.answers('0', () -> farm.outputAt(12));
        Check.refuses(OUTSIDE, () -> farm.outputAt(13));
        Check.answers(10, () -> farm.writeTurbine(1));
        Check.answers('1', () -> farm.outputAt(0));
        for (int index : new int[] {10, 12, -1, 60, Integer.MIN_VALUE, Integer.MAX_VALUE}) {
            Farms.refusesAndKeeps(farm, OUTSIDE, () -> farm.outputAt(index));
        }
        Check.refuses(OUTSIDE, () -> farm.writeTurbine(4));
        Check.answers('1', () -> farm.outputAt(0));
        farm.undo();
        Check.answers('1', () -> farm.outputAt(0));
    }

    static void promise55appendInput() {
        WindFarmDispatcher farm = Farms.empty();
        Check.answers(1, () -> farm.appendInput(' '));
        Check.answers(2, () -> farm.appendInput('~'));
        for (char character : new char[] {0, 31, 127, 128, 256 + 'd', 0xffff}) {
            Farms.refusesAndKeeps(farm, SYNTAX, () -> farm.appendInput(character));
        }
        for (int length = 3; length <= 60; length++) {
            Check.answers(length, () -> farm.appendInput('d'));
        }
        Farms.refusesAndKeeps(farm, UNFIT, () -> farm.appendInput('d'));
        Farms.refusesAndKeeps(farm, SYNTAX, () -> farm.appendInput((char) 127));
        Check.refuses(SYNTAX, farm::execute);
        Farms.isNoChange(farm, () -> farm.appendInput('d'));
        Check.answers(2, () -> farm.appendInput(';'));
    }

    /** Each command does what its method does. */
    static void promise56executeEachCommand() {
        String[] inputs = {"a235", "f0", "s1:12", "r2", "c0:0", "u3", "wE30", "wS7", "g0", "g999", "d", "v",
            "b0:50*500", "q5", "t1", "t48", "c000:090", "b023:001*005", "f0;a011;s0:1;t1;d;v", "g50;d"};
        for (String input : inputs) {
            WindFarmDispatcher one = prepared();
            WindFarmDispatcher other = prepared();
            int commands = input.split(";").length;
            Check.answers(commands, () -> Farms.run(one, input));
            for (String command : input.split(";")) {
                call(other, command);
            }
            Check.answers(Farms.dataOf(other), () -> Farms.dataOf(one));
            Check.isTrue(input + " does something", input.equals("g999") || input.equals("d")
                    || !Farms.dataOf(one).equals(Farms.dataOf(prepared())));
        }
    }

    private static WindFarmDispatcher prepared() {
        WindFarmDispatcher farm = Farms.column();
        farm.addTurbine(3, 3, 4);
        farm.fail(1);
        farm.fail(2);
        farm.sendCrew(2, 6);
        farm.curtail(3, 20);
        farm.placeBid(5, 20, 30);
        return farm;
    }

    private static void call(WindFarmDispatcher farm, String command) {
        String[] parts = command.substring(1).split("[:*]");
        int[] numbers = new int[3];
        for (int at = 0; at < parts.length; at++) {
            String digits = parts[at].replaceAll("[^0-9]", "");
            numbers[at] = digits.isEmpty() ? 0 : Integer.parseInt(digits);
        }
        switch (command.charAt(0)) {
            case 'a': farm.addTurbine(numbers[0] / 100, numbers[0] / 10 % 10, numbers[0] % 10); break;
            case 'f': farm.fail(numbers[0]); break;
            case 's': farm.sendCrew(numbers[0], numbers[1]); break;
            case 'r': farm.recallCrew(numbers[0]); break;
            case 'c': farm.curtail(numbers[0], numbers[1]); break;
            case 'u': farm.release(numbers[0]); break;
            case 'w': farm.setWind(command.charAt(1), numbers[0]); break;
            case 'g': farm.setGridLimit(numbers[0]); break;
            case 'd': farm.dispatch(); break;
            case 'v': farm.releaseAll(); break;
            case 'b': farm.placeBid(numbers[0], numbers[1], numbers[2]); break;
            case 'q': farm.withdrawBid(numbers[0]); break;
            default: farm.passHours(numbers[0]); break;
        }
    }

    static void promise56executeIsOneChange() {
        WindFarmDispatcher farm = Farms.empty();
        Farms.type(farm, "a009;wN12;t2");
        Check.answers(3, farm::execute);
        Check.answers(180L, farm::energyMade);
        Check.answers(0, farm::undo);
        Check.answers(0, farm::turbineCount);
        Check.answers(0, farm::time);
        Farms.type(farm, "d");
        Check.answers(1, farm::execute);
        Check.answers(0, farm::undo);
        Check.answers(30, () -> Farms.run(farm, "d;".repeat(29) + "d"));
        Check.answers(0, farm::undo);
        Check.answers(1, () -> farm.appendInput('d'));
    }

    static void promise56executeThatThrowsEmptiesTheInput() {
        for (String input : new String[] {"d;", "g5;f0", "g5;q0"}) {
            WindFarmDispatcher farm = Farms.empty();
            Farms.type(farm, input);
            Check.outcome(farm::execute);
            Check.answers(999, farm::gridLimit);
            Check.refuses(IllegalStateException.class, farm::undo);
            Check.answers(1, () -> farm.appendInput('d'));
            Check.answers(1, farm::execute);
        }
    }

    static void promise56executeUnfit() {
        WindFarmDispatcher farm = Farms.column();
        farm.placeBid(5, 20, 30);
        Check.rejects(farm, WindFarmDispatcher.NO_BID, 1, () -> farm.withdrawBid(0));
        String[] inputs = {"a501", "a061", "a330", "f4", "f999", "s4:1", "s0:0", "s0:13", "r4", "c4:1", "c0:91",
            "u4", "wN31", "wW999", "b24:1*1", "b0:0*1", "b0:51*1", "b0:1*0", "b0:1*501", "q24", "t0", "t49",
            "g7;a331;f5", "g7;t0;q1", "f0;c0:91", "b5:0*1"};
        for (String input : inputs) {
            String before = Farms.allOf(farm);
            Check.refuses(UNFIT, () -> Farms.run(farm, input));
            Check.answers(before, () -> Farms.allOf(farm));
        }
    }

    static void promise56executeRejected() {
        WindFarmDispatcher farm = Farms.column();
        farm.placeBid(5, 20, 30);
        farm.fail(1);
        rejected(farm, "a009", 0, WindFarmDispatcher.CELL_TAKEN);
        rejected(farm, "d;a331;a331", 2, WindFarmDispatcher.CELL_TAKEN);
        rejected(farm, "f0;f0", 1, WindFarmDispatcher.NOT_RUNNING);
        rejected(farm, "s0:1", 0, WindFarmDispatcher.NOT_FAILED);
        rejected(farm, "f0;f2;s0:5;s1:5;d;s2:5;t0", 5, WindFarmDispatcher.NO_CREW);
        rejected(farm, "r1", 0, WindFarmDispatcher.NOT_IN_SERVICE);
        rejected(farm, "c1:5", 0, WindFarmDispatcher.NOT_RUNNING);
        rejected(farm, "u1", 0, WindFarmDispatcher.NOT_RUNNING);
        rejected(farm, "u0", 0, WindFarmDispatcher.NOT_CURTAILED);
        rejected(farm, "b5:1*1", 0, WindFarmDispatcher.BID_EXISTS);
        rejected(farm, "q5;q5", 1, WindFarmDispatcher.NO_BID);
        WindFarmDispatcher full = Farms.full(1);
        rejected(full, "g1;a111", 1, WindFarmDispatcher.TURBINE_LIMIT);
    }

    private static void rejected(WindFarmDispatcher farm, String input, int number, int cause) {
        String before = Farms.dataOf(farm);
        Check.rejects(farm, WindFarmDispatcher.COMMAND_REJECTED, number, () -> Farms.run(farm, input));
        Check.answers(cause, farm::causeReason);
        Check.answers(before, () -> Farms.dataOf(farm));
    }

    /** The offset of an error is where the first character stands that cannot follow. */
    static void promise57syntaxErrorOffset() {
        WindFarmDispatcher farm = Farms.empty();
        Check.refuses(NoSuchElementException.class, farm::syntaxErrorOffset);
        String[] inputs = {
            "", "0@", "x", "0@", ";", "0@", " d", "0@", "D", "0@", "1", "0@", "n", "0@",
            "a", "1@", "a1", "2@", "a12", "3@", "a1:", "2@", "a1234", "4@", "a12x", "3@",
            "f", "1@", "f:", "1@", "f1234", "4@", "f12 ", "3@", "f-1", "1@", "f1:2", "2@",
            "s1", "2@", "s1:", "3@", "s123:1234", "8@", "s1*2", "2@", "s:1", "1@", "s1234:1", "4@",
            "r", "1@", "u", "1@", "g", "1@", "q", "1@", "t", "1@", "r1234", "4@", "u1,", "2@",
            "c12", "3@", "c12:", "4@", "c1:2:", "4@", "c1:2*3", "4@",
            "w", "1@", "wX1", "1@", "wn1", "1@", "w1", "1@", "wN", "2@", "wN1234", "5@", "wNE", "2@", "wN:1", "2@",
            "d1", "1@", "d;", "2@", "d;;", "2@", "dd", "1@", "v:", "1@", "vd", "1@", "d ;d", "1@",
            "b", "1@", "b1", "2@", "b1:", "3@", "b1:2", "4@", "b1:2*", "5@", "b1:2*1234", "8@", "b1*2", "2@",
            "b1:2:3", "4@", "b1:2*3*", "6@", "b1234", "4@", "b123:1234", "8@",
            "d;v;x", "4@", "g1;f", "4@", "t12;", "4@", "t12,d", "3@", "d;a12;", "5@",
        };
        for (int at = 0; at < inputs.length; at += 2) {
            String input = inputs[at];
            int due = Integer.parseInt(inputs[at + 1].replace("@", ""));
            String before = Farms.dataOf(farm);
            Check.refuses(SYNTAX, () -> Farms.run(farm, input));
            Check.answers(due, farm::syntaxErrorOffset);
            Check.answers(before, () -> Farms.dataOf(farm));
        }
    }

    static void promise57syntaxErrorIsKept() {
        WindFarmDispatcher farm = Farms.empty();
        Check.refuses(SYNTAX, () -> Farms.run(farm, "d;d;x"));
        farm.saveSnapshot();
        Farms.run(farm, "a009;f0");
        Check.refuses(UNFIT, () -> Farms.run(farm, "f9"));
        Check.refuses(REJECTED, () -> Farms.run(farm, "f0"));
        farm.undo();
        farm.restoreSnapshot();
        Check.answers(4, farm::syntaxErrorOffset);
        Check.refuses(SYNTAX, farm::execute);
        Check.answers(0, farm::syntaxErrorOffset);
        Check.refuses(SYNTAX, () -> Farms.run(farm, "d;".repeat(30)));
        Check.answers(60, farm::syntaxErrorOffset);
        // an unfit command ahead of the error does not matter
        Check.refuses(SYNTAX, () -> Farms.run(farm, "t0;q0;x"));
        Check.answers(6, farm::syntaxErrorOffset);
    }
}
