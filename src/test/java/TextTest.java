/** Promises 23 to 25: the text and its orders. */
public final class TextTest {
    public static void main(String[] args) {
        promise23Append();
        promise24ClearText();
        promise25SyntaxOfOrders();
        promise25SyntaxOfNumbers();
        promise25SyntaxOfEnds();
        promise25SyntaxErrorChangesNothing();
        promise25EachOrder();
        promise25StopsAtWhatIsNotPossible();
        promise25EndsAtTheLatestTime();
        promise25SavesOneState();
        promise25LongTexts();
        Checks.end();
    }

    private static AirStation two() {
        AirStation station = new AirStation();
        station.addCompressor(200);
        station.addCompressor(100);
        return station;
    }

    private static void dueError(String text, int position) {
        AirStation station = two();
        Checks.write(station, text);
        long before = station.digest();
        Checks.due("carryOut() of " + text, station.carryOut(), -10 - position);
        Checks.due("the digest behind " + text, station.digest(), before);
    }

    private static void dueCarriedOut(String text, int orders) {
        AirStation station = two();
        Checks.write(station, text);
        Checks.due("carryOut() of " + text, station.carryOut(), orders);
    }

    private static void promise23Append() {
        AirStation station = new AirStation();
        Checks.dueIllegalArgument("append(-1)", station, () -> station.append(-1));
        Checks.dueIllegalArgument("append(128)", station, () -> station.append(128));
        Checks.due("append(0)", station.append(0), 1);
        Checks.due("append(127)", station.append(127), 2);
        for (int length = 3; length <= 100; length++) {
            Checks.due("append('r')", station.append('r'), length);
        }
        Checks.dueIllegalState("a byte too many", station, () -> station.append('r'));
        Checks.dueIllegalArgument("append(128) to a full text", station, () -> station.append(128));
        Checks.dueIllegalState("it is not undoable", station, station::undo);
    }

    private static void promise24ClearText() {
        AirStation station = new AirStation();
        Checks.due("of an empty text", station.clearText(), 0);
        Checks.write(station, "r;r");
        Checks.due("of three bytes", station.clearText(), 3);
        Checks.due("it is empty", station.clearText(), 0);
        Checks.dueIllegalState("it is not undoable", station, station::undo);
        Checks.write(station, "r;");
        Checks.due("nothing of the old text is left", station.carryOut(), 1);
        Checks.write(station, "d12;r;");
        Checks.write(station, "d1");
        Checks.due("nothing of the old text is read", station.carryOut(), -12);
        Checks.write(station, "");
        Checks.due("no order of the old text is left", station.carryOut(), 0);
    }

    private static void promise25SyntaxOfOrders() {
        dueCarriedOut("", 0);
        dueCarriedOut("r;", 1);
        dueCarriedOut("d0;m1;t0;c0;r;", 5);
        dueError("x", 0);
        dueError(";", 0);
        dueError(" r;", 0);
        dueError("r ;", 1);
        dueError("r;;", 2);
        dueError("R;", 0);
        dueError("1;", 0);
        dueError("r;q;", 2);
        dueError("rr;", 1);
        dueError("r1;", 1);
        dueError("d5;m5;?", 6);
        dueError("r;" + (char) 0, 2);
        dueError("d" + (char) 127, 1);
    }

    private static void promise25SyntaxOfNumbers() {
        dueCarriedOut("d0000;", 1);
        dueCarriedOut("d3000;", 1);
        dueCarriedOut("d007;m001;m01;m600;", 4);
        dueError("d3001;", 1);
        dueError("d9999;", 1);
        dueError("d9999x", 1);
        dueError("d9999", 1);
        dueError("d99990", 5);
        dueError("d00000;", 5);
        dueError("d12345;", 5);
        dueError("d-1;", 1);
        dueError("d;", 1);
        dueError("d1 ;", 2);
        dueError("d3000d", 5);
        dueError("m0;", 1);
        dueError("m000;", 1);
        dueError("m000r", 1);
        dueError("m0", 1);
        dueError("m601;", 1);
        dueError("m6010;", 4);
        dueError("m0001;", 4);
        dueError("m0000;", 4);
        dueError("m;", 1);
        dueError("m1:", 2);
        dueError("m1/", 2);
        dueError("r;m999", 3);
        dueError("r;m999;x", 3);
    }

    private static void promise25SyntaxOfEnds() {
        dueError("r", 1);
        dueError("d", 1);
        dueError("d1", 2);
        dueError("d3000", 5);
        dueError("m", 1);
        dueError("m1", 2);
        dueError("m600", 4);
        dueError("t", 1);
        dueError("c", 1);
        dueError("t0", 2);
        dueError("c4", 2);
        dueError("t5", 1);
        dueError("c5;", 1);
        dueError("t9;", 1);
        dueError("t12;", 2);
        dueError("t00;", 2);
        dueError("t;", 1);
        dueError("c/;", 1);
        dueError("r;c", 3);
    }

    private static void promise25SyntaxErrorChangesNothing() {
        AirStation station = two();
        Checks.write(station, "d7;m5;x");
        Checks.due("carryOut()", station.carryOut(), -16);
        Checks.due("setting(6)", station.setting(6), 100);
        Checks.due("value(7)", station.value(7), 0);
        Checks.due("undo() finds addCompressor", station.undo(), 1);
        Checks.due("value(3)", station.value(3), 1);
        Checks.due("the text stays", station.clearText(), 7);
    }

    private static void promise25EachOrder() {
        AirStation station = two();
        Checks.write(station, "d33;m10;t1;r;");
        AirStation other = two();
        other.set(6, 33);
        other.pass(10);
        other.trip(1);
        other.rotate();
        Checks.due("carryOut()", station.carryOut(), 4);
        dueAlike("orders and calls", station, other);
        Checks.write(station, "c1;m004;d2999;t0;m60;c0;m600;");
        other.clear(1);
        other.pass(4);
        other.set(6, 2999);
        other.trip(0);
        other.pass(60);
        other.clear(0);
        other.pass(600);
        Checks.due("carryOut()", station.carryOut(), 7);
        dueAlike("more orders and calls", station, other);
        Checks.due("the text stays", station.clearText(), 29);
    }

    private static void dueAlike(String told, AirStation station, AirStation other) {
        for (int what = 0; what < 12; what++) {
            Checks.due(told + ": value(" + what + ")", station.value(what), other.value(what));
        }
        for (int what = 0; what < 6; what++) {
            Checks.due(told + ": booked(" + what + ")", station.booked(what), other.booked(what));
        }
        for (int what = 0; what < 10; what++) {
            Checks.due(told + ": compressor(0, " + what + ")", station.compressor(0, what), other.compressor(0, what));
            Checks.due(told + ": compressor(1, " + what + ")", station.compressor(1, what), other.compressor(1, what));
        }
        Checks.due(told + ": setting(6)", station.setting(6), other.setting(6));
    }

    private static void promise25StopsAtWhatIsNotPossible() {
        AirStation station = two();
        Checks.write(station, "d5;t2;d6;");
        Checks.due("t of none", station.carryOut(), 1);
        Checks.due("setting(6)", station.setting(6), 5);
        Checks.write(station, "c4;d6;");
        Checks.due("c of none", station.carryOut(), 0);
        Checks.write(station, "d7;c0;d6;");
        Checks.due("c of one that is off", station.carryOut(), 1);
        Checks.write(station, "t0;t0;d6;");
        Checks.due("t of a tripped one", station.carryOut(), 1);
        Checks.due("compressor(0, 1)", station.compressor(0, 1), 3);
        Checks.write(station, "c0;c0;d6;");
        Checks.due("c of a cleared one", station.carryOut(), 1);
        Checks.due("setting(6)", station.setting(6), 7);
        AirStation none = new AirStation();
        Checks.write(none, "r;r;t0;r;");
        Checks.due("of no compressor", none.carryOut(), 2);
        Checks.due("rotations", none.value(9), 2);
    }

    private static void promise25EndsAtTheLatestTime() {
        AirStation station = new AirStation();
        for (int turn = 0; turn < 166; turn++) {
            station.pass(600);
        }
        Checks.write(station, "m399;m2;m1;d9;");
        Checks.due("m2 is too much", station.carryOut(), 1);
        Checks.due("value(7)", station.value(7), 99999);
        Checks.write(station, "m1;m1;d9;");
        Checks.due("m1 is too much", station.carryOut(), 1);
        Checks.due("value(7)", station.value(7), 100000);
        Checks.due("setting(6)", station.setting(6), 100);
    }

    private static void promise25SavesOneState() {
        AirStation station = two();
        Checks.write(station, "d7;m5;d8;");
        Checks.due("carryOut()", station.carryOut(), 3);
        Checks.due("undo()", station.undo(), 2);
        Checks.due("setting(6) undone", station.setting(6), 100);
        Checks.due("value(7) undone", station.value(7), 0);
        Checks.due("the text stays", station.carryOut(), 3);
        Checks.write(station, "");
        Checks.due("carryOut() of nothing", station.carryOut(), 0);
        Checks.due("it is undoable", station.undo(), 3);
        Checks.write(station, "c0;");
        Checks.due("carryOut() of what is not possible", station.carryOut(), 0);
        Checks.due("it is undoable", station.undo(), 3);
        Checks.due("undo()", station.undo(), 2);
        Checks.due("setting(6) undone", station.setting(6), 100);
    }

    private static void promise25LongTexts() {
        dueCarriedOut("r;".repeat(50), 50);
        dueCarriedOut("m600;".repeat(20), 20);
        dueError("r;".repeat(49) + "r?", 99);
        dueError("r;".repeat(49) + "d1", 100);
        dueError("r;".repeat(48) + "m000", 97);
        dueError("r".repeat(100), 1);
    }
}
