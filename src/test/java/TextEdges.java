/** The boundary cases of the text and its orders, and of promises 23 to 25. */
final class TextEdges {
    private static final Class<?> ARGUMENT = IllegalArgumentException.class;
    private static final Class<?> STATE = IllegalStateException.class;
    private static final int BYTES = 128;

    private TextEdges() {
    }

    static void run(Edges edges) {
        runText(edges);
        runSyntax(edges);
        runAppendAndClear(edges);
        runCarryOut(edges);
    }

    private static AirStation five() {
        return Edges.still(10, 20, 30, 40, 50);
    }

    private static void dueAnswer(String text, int answer) {
        AirStation station = five();
        Checks.write(station, text);
        Checks.due("carryOut() of " + text, station.carryOut(), answer);
    }

    private static void dueError(String text, int position) {
        AirStation station = five();
        Checks.write(station, text);
        long before = station.digest();
        Checks.due("carryOut() of " + text, station.carryOut(), -10 - position);
        Checks.due("the digest behind " + text, station.digest(), before);
    }

    /** Each byte behind this text is an error at its own place, but for those that can stand there. */
    private static void dueOnly(String text, String canFollow) {
        for (char value = 0; value < BYTES; value++) {
            if (canFollow.indexOf(value) < 0) {
                dueError(text + value, text.length());
            } else if (value != ';') {
                // what is an error behind it, if nothing else, is the end that comes too early
                dueError(text + value, text.length() + 1);
            } else {
                dueAnswer(text + value, 1);
            }
        }
    }

    // ---- what a text is

    private static void runText(Edges edges) {
        edges.under("Terms");
        edges.of("The text has at most 100 bytes.", TextEdges::atMost100Bytes);
        edges.of("It is a sequence of orders, each terminated by a semicolon", TextEdges::eachWithItsSemicolon);
        edges.of("\"d\" and a demand of one to four digits, 0 to 3000", TextEdges::demandOrders);
        edges.of("\"m\" and a number of minutes of one to three digits, 1 to 600, to let pass",
                TextEdges::minuteOrders);
        edges.of("\"t\" or \"c\" and a compressor digit 0 to 4, to trip or to clear it", TextEdges::compressorOrders);
        edges.of("\"r\", to rotate now.", TextEdges::rotateOrders);
        edges.of("There are no spaces", TextEdges::noSpaces);
        edges.of("there may be no orders.", TextEdges::noOrders);
        edges.of("Numbers can have zeros in front.", TextEdges::zerosInFront);
    }

    private static void atMost100Bytes() {
        AirStation station = new AirStation();
        for (int length = 1; length <= 100; length++) {
            Checks.due("append", station.append(length % 2 == 1 ? 'r' : ';'), length);
        }
        Edges.dueRefused("append", station, station::append, STATE, 'r', ';');
        Checks.due("50 orders in 100 bytes", station.carryOut(), 50);
        Checks.due("rotations", station.value(9), 50);
        Checks.due("clearText()", station.clearText(), 100);
        Checks.due("append to an emptied text", station.append('r'), 1);
    }

    private static void eachWithItsSemicolon() {
        dueAnswer("r;", 1);
        dueAnswer("r;r;", 2);
        dueError("r", 1);
        dueError("r;r", 3);
        dueError(";", 0);
        dueError("r;;", 2);
        dueError(";r;", 0);
        dueOnly("d3000", ";");
        dueOnly("m600", ";");
        dueOnly("t0", ";");
        dueOnly("r", ";");
        dueOnly("", "dmtcr");
        dueOnly("r;", "dmtcr");
    }

    private static void demandOrders() {
        String[] right = {"0", "9", "10", "99", "100", "999", "1000", "2999", "3000"};
        for (String number : right) {
            AirStation station = new AirStation();
            Checks.write(station, "d" + number + ";");
            Checks.due("carryOut() of d" + number + ";", station.carryOut(), 1);
            Checks.due("the demand", station.setting(6), Integer.parseInt(number));
        }
        dueError("d;", 1);
        dueError("d3001;", 1);
        dueError("d9999;", 1);
        dueError("d10000;", 5);
        dueError("d00000;", 5);
        dueError("d-1;", 1);
        dueOnly("d", "0123456789");
        dueOnly("d1", "0123456789;");
        dueOnly("d12", "0123456789;");
        dueOnly("d123", "0123456789;");
        dueOnly("d1234", ";");
        dueError("D1;", 0);
        dueError("e1;", 0);
        dueError("b1;", 0);
    }

    private static void minuteOrders() {
        String[] right = {"1", "9", "10", "99", "100", "599", "600"};
        for (String number : right) {
            AirStation station = new AirStation();
            Checks.write(station, "m" + number + ";");
            Checks.due("carryOut() of m" + number + ";", station.carryOut(), 1);
            Checks.due("the time", station.value(7), Integer.parseInt(number));
        }
        dueError("m;", 1);
        dueError("m0;", 1);
        dueError("m601;", 1);
        dueError("m999;", 1);
        dueError("m1000;", 4);
        dueError("m0001;", 4);
        // "m0" ends out of its range, which is told at the same index
        dueOnly("m", "123456789");
        dueOnly("m1", "0123456789;");
        dueOnly("m12", "0123456789;");
        dueOnly("m123", ";");
        dueError("l1;", 0);
        dueError("n1;", 0);
    }

    private static void compressorOrders() {
        dueOnly("t", "01234");
        dueOnly("c", "01234");
        for (char digit = '0'; digit <= '4'; digit++) {
            AirStation station = five();
            Checks.write(station, "t" + digit + ";");
            Checks.due("carryOut() of t" + digit, station.carryOut(), 1);
            Checks.due("tripped", station.compressor(digit - '0', 1), 3);
            Checks.due("no other one", station.value(6), 1);
            Checks.write(station, "c" + digit + ";");
            Checks.due("carryOut() of c" + digit, station.carryOut(), 1);
            Checks.due("cleared", station.compressor(digit - '0', 1), 0);
            Checks.due("its rest", station.compressor(digit - '0', 6), 3);
            Checks.due("tripped ones", station.value(6), 0);
        }
        dueError("t;", 1);
        dueError("c;", 1);
        dueError("t5;", 1);
        dueError("c5;", 1);
        dueError("t00;", 2);
        dueError("c04;", 2);
        dueError("s0;", 0);
        dueError("u0;", 0);
        dueError("b0;", 0);
    }

    private static void rotateOrders() {
        AirStation station = Edges.firstAlone(1, 20);
        Checks.write(station, "r;");
        Checks.due("carryOut()", station.carryOut(), 1);
        Edges.dueOrder("rotated", station, 1, 0);
        Checks.due("minutes since", station.value(8), 0);
        Checks.due("rotations", station.value(9), 1);
        dueError("r0;", 1);
        dueError("R;", 0);
        dueError("q;", 0);
        dueError("s;", 0);
    }

    private static void noSpaces() {
        dueAnswer("d1;m1;", 2);
        dueError(" d1;", 0);
        dueError("d 1;", 1);
        dueError("d1 ;", 2);
        dueError("d1; m1;", 3);
        dueError("d1;m1; ", 6);
        dueError("d1;m1;\n", 6);
        dueError(" ", 0);
    }

    private static void noOrders() {
        AirStation station = new AirStation();
        Checks.due("an empty text", station.carryOut(), 0);
        Checks.due("it saves a state", station.undo(), 0);
        Checks.write(station, "r;");
        station.clearText();
        Checks.due("an emptied text", station.carryOut(), 0);
        Checks.due("rotations", station.value(9), 0);
    }

    private static void zerosInFront() {
        String[] texts = {"d0;", "d00;", "d000;", "d0000;", "d01;", "d001;", "d0001;", "d0300;"};
        int[] demands = {0, 0, 0, 0, 1, 1, 1, 300};
        for (int turn = 0; turn < texts.length; turn++) {
            AirStation station = new AirStation();
            Checks.write(station, texts[turn]);
            Checks.due("carryOut() of " + texts[turn], station.carryOut(), 1);
            Checks.due("the demand of " + texts[turn], station.setting(6), demands[turn]);
        }
        AirStation station = new AirStation();
        Checks.write(station, "m01;m001;m060;");
        Checks.due("carryOut()", station.carryOut(), 3);
        Checks.due("the time", station.value(7), 62);
        dueError("d00001;", 5);
        dueError("m0001;", 4);
        dueError("m00;", 1);
        dueError("m000;", 1);
        dueError("t01;", 2);
    }

    // ---- the syntax error position

    private static void runSyntax(Edges edges) {
        edges.under("Terms");
        edges.of("The syntax error position is the index of the first byte that cannot stand where it stands",
                TextEdges::firstOfSeveralErrors);
        edges.of("(a digit too many, too)", TextEdges::digitTooMany);
        edges.of("or the length of the text if the text ends too early.", TextEdges::endsTooEarly);
        edges.of("For a number that is out of its range it is the index of its first digit", TextEdges::outOfItsRange);
        edges.of("found when a byte that is no digit, whichever it is", TextEdges::foundByAnyByte);
        edges.of("or the end of the text, follows it.", TextEdges::foundByTheEnd);
    }

    private static void firstOfSeveralErrors() {
        dueError("x;y;", 0);
        dueError("r;x;y", 2);
        dueError("d1;d3001;x", 4);
        dueError("x;d3001;", 0);
        dueError("d3001;x", 1);
        dueError("d3001x", 1);
        dueError("m601;d", 1);
        dueError("t9", 1);
        dueError("t9x", 1);
        dueError("rx", 1);
        dueError("r;".repeat(49) + "x", 98);
        dueError("r;".repeat(49) + "rx", 99);
        dueError("x" + "r;".repeat(49), 0);
    }

    private static void digitTooMany() {
        dueError("d30000", 5);
        dueError("d30010", 5);
        dueError("d99999", 5);
        dueError("d99999;", 5);
        dueError("d000000", 5);
        dueError("m6000", 4);
        dueError("m6010", 4);
        dueError("m0000", 4);
        dueError("m9999;", 4);
        dueError("t00", 2);
        dueError("c44;", 2);
        dueError("t44444;", 2);
        dueAnswer("d3000;", 1);
        dueAnswer("m600;", 1);
        dueAnswer("t0;", 1);
    }

    private static void endsTooEarly() {
        String whole = "d3000;m600;t4;c4;r;";
        int orders = 0;
        for (int length = 0; length <= whole.length(); length++) {
            String text = whole.substring(0, length);
            boolean isWhole = length == 0 || text.charAt(length - 1) == ';';
            if (isWhole) {
                dueAnswer(text, orders);
                orders++;
            } else {
                dueError(text, length);
            }
        }
        String full = "r;".repeat(49);
        dueError(full + "r", 99);
        dueError(full + "t4", 100);
        dueError(full + "d1", 100);
        dueAnswer(full, 49);
        dueAnswer(full + "r;", 50);
    }

    private static void outOfItsRange() {
        dueAnswer("d3000;", 1);
        dueError("d3001;", 1);
        dueAnswer("m1;", 1);
        dueError("m0;", 1);
        dueAnswer("m600;", 1);
        dueError("m601;", 1);
        dueError("r;d4000;", 3);
        dueError("r;m700;", 3);
        dueError("r;m000;", 3);
        dueError("r;".repeat(47) + "d3001;", 95);
        dueError("r;".repeat(47) + "m601;", 95);
    }

    private static void foundByAnyByte() {
        String[] numbers = {"d3001", "d9999", "m0", "m00", "m000", "m601", "m999"};
        for (String number : numbers) {
            for (char value = 0; value < BYTES; value++) {
                if (value < '0' || value > '9') {
                    dueError(number + value, 1);
                }
            }
        }
        for (char digit = '0'; digit <= '9'; digit++) {
            dueError("d3001" + digit, 5);
            dueError("m000" + digit, 4);
            dueError("m601" + digit, 4);
        }
        dueAnswer("m01;", 1);
        dueError("m01x", 3);
        dueError("d3000x", 5);
        dueError("d300x", 4);
    }

    private static void foundByTheEnd() {
        dueError("d3001", 1);
        dueError("d9999", 1);
        dueError("d3000", 5);
        dueError("m0", 1);
        dueError("m00", 1);
        dueError("m000", 1);
        dueError("m601", 1);
        dueError("m600", 4);
        dueError("m1", 2);
        dueError("r;".repeat(47) + "rr", 95);
        dueError("r;".repeat(48) + "m601", 97);
        dueError("r;".repeat(48) + "m600", 100);
    }

    // ---- append and clearText

    private static void runAppendAndClear(Edges edges) {
        edges.under("Promise 23");
        edges.of("Appends a byte to the text.", TextEdges::bytesInTheirOrder);
        edges.of("`value`: the byte, 0 to 127", TextEdges::byteEnds);
        edges.of("Returns the new length of the text.", TextEdges::lengths);
        edges.of("Throws `IllegalArgumentException` if value is out of range", TextEdges::byteOutOfRange);
        edges.of("Throws `IllegalStateException` if the text has 100 bytes", TextEdges::fullText);
        edges.under("Promise 24");
        edges.of("Empties the text.", TextEdges::emptied);
        edges.of("Returns the length that it had.", TextEdges::lengthThatItHad);
    }

    private static void bytesInTheirOrder() {
        AirStation station = five();
        Checks.write(station, "d12;");
        station.carryOut();
        Checks.due("the demand", station.setting(6), 12);
        station.append('d');
        station.append('7');
        Checks.due("carryOut() of an unended text", station.carryOut(), -16);
        station.append(';');
        Checks.due("carryOut() of the ended one", station.carryOut(), 2);
        Checks.due("the demand", station.setting(6), 7);
        Checks.due("it is not undoable", station.undo(), 3);
    }

    private static void byteEnds() {
        AirStation station = new AirStation();
        Checks.due("append(0)", station.append(0), 1);
        Checks.due("append(127)", station.append(127), 2);
        Checks.due("append(1)", station.append(1), 3);
        Checks.due("append(126)", station.append(126), 4);
        Checks.due("carryOut()", station.carryOut(), -10);
    }

    private static void lengths() {
        AirStation station = new AirStation();
        for (int length = 1; length <= 100; length++) {
            Checks.due("append", station.append(length), length);
        }
        station.clearText();
        Checks.due("append behind clearText()", station.append(1), 1);
    }

    private static void byteOutOfRange() {
        AirStation station = new AirStation();
        Edges.dueRefused("append", station, station::append, ARGUMENT, -1, 128, 255, 256, Integer.MIN_VALUE,
                Integer.MAX_VALUE);
        Checks.due("the length", station.clearText(), 0);
    }

    private static void fullText() {
        AirStation station = new AirStation();
        for (int length = 1; length <= 99; length++) {
            station.append('r');
        }
        Checks.due("the last byte", station.append('r'), 100);
        Edges.dueRefused("append", station, station::append, STATE, 'r', 0, 127);
        Edges.dueRefused("append", station, station::append, ARGUMENT, -1, 128);
        Checks.due("the length", station.clearText(), 100);
        Checks.due("append behind clearText()", station.append('r'), 1);
    }

    private static void emptied() {
        AirStation station = new AirStation();
        Checks.write(station, "r;".repeat(50));
        station.clearText();
        Checks.due("no order is left", station.carryOut(), 0);
        Checks.due("rotations", station.value(9), 0);
        station.append('r');
        Checks.due("no semicolon is left", station.carryOut(), -11);
        station.undo();
        Checks.dueIllegalState("clearText is not undoable", station, station::undo);
    }

    private static void lengthThatItHad() {
        AirStation station = new AirStation();
        Checks.due("of none", station.clearText(), 0);
        station.append(0);
        Checks.due("of one", station.clearText(), 1);
        Checks.due("of none again", station.clearText(), 0);
        Checks.write(station, "r".repeat(99));
        Checks.due("of 99", station.clearText(), 99);
        Checks.write(station, "r".repeat(100));
        Checks.due("of 100", station.clearText(), 100);
    }

    // ---- carryOut

    private static void runCarryOut(Edges edges) {
        edges.under("Promise 25");
        edges.of("Carries out the orders of the text, up to the first one that is not possible.",
                TextEdges::upToWhatIsNotPossible);
        edges.of("up to the first one that is not possible.", TextEdges::upToTheLatestTime);
        edges.of("The text stays as it is.", TextEdges::textStays);
        edges.of("Undoable (one saved state, also if no order is carried out), if there is no syntax error.",
                TextEdges::oneSavedState);
        edges.of("Returns the number of orders that are carried out", TextEdges::numberOfOrders);
        edges.of("-10 minus the syntax error position if there is a syntax error (then nothing changes).",
                TextEdges::nothingChanges);
    }

    private static void upToWhatIsNotPossible() {
        String[] texts = {"t2;d6;", "c2;d6;", "c0;d6;", "t0;t0;d6;", "t0;c0;c0;d6;", "d5;t4;d6;", "r;c1;d6;"};
        int[] orders = {0, 0, 0, 1, 2, 1, 1};
        int[] demands = {0, 0, 0, 0, 0, 5, 0};
        for (int turn = 0; turn < texts.length; turn++) {
            AirStation station = Edges.still(10, 20);
            Checks.write(station, texts[turn]);
            Checks.due("carryOut() of " + texts[turn], station.carryOut(), orders[turn]);
            Checks.due("the demand behind " + texts[turn], station.setting(6), demands[turn]);
        }
        AirStation last = Edges.still(10, 20);
        Checks.write(last, "t1;c1;t0;c0;d6;");
        Checks.due("all are possible", last.carryOut(), 5);
        Checks.due("the demand", last.setting(6), 6);
        AirStation none = Edges.still();
        Checks.write(none, "t0;");
        Checks.due("of no compressor", none.carryOut(), 0);
        Checks.write(none, "c0;");
        Checks.due("of no compressor", none.carryOut(), 0);
    }

    private static void upToTheLatestTime() {
        AirStation station = Edges.aged(99400);
        Checks.write(station, "m600;d5;m1;d6;");
        Checks.due("m600 is possible, m1 is not", station.carryOut(), 2);
        Checks.due("the time", station.value(7), 100000);
        Checks.due("the demand", station.setting(6), 5);
        AirStation late = Edges.aged(99401);
        Checks.write(late, "m600;d5;");
        Checks.due("m600 is not possible", late.carryOut(), 0);
        Checks.due("the time", late.value(7), 99401);
        Checks.due("the demand", late.setting(6), 0);
        Checks.write(late, "m599;d5;");
        Checks.due("m599 is possible", late.carryOut(), 2);
        Checks.due("the time", late.value(7), 100000);
    }

    private static void textStays() {
        AirStation station = five();
        Checks.write(station, "m1;r;");
        Checks.due("once", station.carryOut(), 2);
        Checks.due("twice", station.carryOut(), 2);
        Checks.due("the time", station.value(7), 2);
        Checks.due("the length", station.clearText(), 5);
        Checks.write(station, "r;t0;t0;");
        Checks.due("a part of it", station.carryOut(), 2);
        Checks.due("the length", station.clearText(), 8);
        Checks.write(station, "r;x");
        Checks.due("with an error", station.carryOut(), -12);
        Checks.due("the length", station.clearText(), 3);
    }

    private static void oneSavedState() {
        AirStation station = new AirStation();
        Checks.due("no order", station.carryOut(), 0);
        Checks.due("one saved state", station.undo(), 0);
        Checks.write(station, "t0;");
        Checks.due("no order is possible", station.carryOut(), 0);
        Checks.due("one saved state", station.undo(), 0);
        Checks.write(station, "d1;m600;r;d2;m9;");
        long before = station.digest();
        Checks.due("five orders", station.carryOut(), 5);
        Checks.due("one saved state", station.undo(), 0);
        Checks.due("the digest", station.digest(), before);
        Checks.write(station, "d1;x");
        Checks.due("a syntax error", station.carryOut(), -13);
        Checks.dueIllegalState("no saved state", station, station::undo);
    }

    private static void numberOfOrders() {
        dueAnswer("", 0);
        dueAnswer("d0;", 1);
        dueAnswer("d0;m1;t0;c0;r;", 5);
        dueAnswer("r;".repeat(50), 50);
        dueAnswer("m600;".repeat(20), 20);
        dueAnswer("d3000;".repeat(16), 16);
        dueAnswer("t0;c0;".repeat(16), 32);
        dueAnswer("r;".repeat(49) + "t0", -110);
    }

    private static void nothingChanges() {
        AirStation station = five();
        station.pass(5);
        Checks.write(station, "d7;m5;t0;r;x");
        long before = station.digest();
        Checks.due("carryOut()", station.carryOut(), -21);
        Checks.due("the digest", station.digest(), before);
        Checks.due("the time", station.value(7), 5);
        Checks.due("the demand", station.setting(6), 0);
        Checks.due("the rotations", station.value(9), 0);
        dueError("x", 0);
        dueError("r;".repeat(49) + "d1", 100);
    }
}
