/** What the tests share: they count the wrong answers and end with exit code 1 if there was one. */
final class Checks {
    /** A call that may throw. */
    interface Call {
        Object make();
    }

    private static int made = 0;
    private static int wrong = 0;
    private static String subject = "";

    private Checks() {
    }

    /** What the answers that follow are about; it is told with each one that is wrong. */
    static void speakOf(String newSubject) {
        subject = newSubject;
    }

    static int made() {
        return made;
    }

    static void due(String told, long got, long want) {
        made++;
        if (got != want) {
            tell(told + " answered " + got + ", due is " + want);
        }
    }

    static void dueDouble(String told, double got, double want) {
        made++;
        if (Double.compare(got, want) != 0) {
            tell(told + " answered " + got + ", due is " + want);
        }
    }

    static void dueText(String told, String got, String want) {
        made++;
        if (!got.equals(want)) {
            tell(told + " answered " + got + ", due is " + want);
        }
    }

    /** The values of value(0) to value(11), or a part of them from the first one on. */
    static void dueValues(String told, AirStation station, int... want) {
        for (int what = 0; what < want.length; what++) {
            due(told + ": value(" + what + ")", station.value(what), want[what]);
        }
    }

    static void dueBooked(String told, AirStation station, long... want) {
        for (int what = 0; what < want.length; what++) {
            due(told + ": booked(" + what + ")", station.booked(what), want[what]);
        }
    }

    /** The values of compressor(number, 0) and so on. */
    static void dueCompressor(String told, AirStation station, int number, int... want) {
        for (int what = 0; what < want.length; what++) {
            due(told + ": compressor(" + number + ", " + what + ")", station.compressor(number, what), want[what]);
        }
    }

    static void dueIllegalArgument(String told, AirStation station, Call call) {
        dueThrown(told, station, call, IllegalArgumentException.class);
    }

    static void dueIllegalState(String told, AirStation station, Call call) {
        dueThrown(told, station, call, IllegalStateException.class);
    }

    static void dueIndexOutOfBounds(String told, AirStation station, Call call) {
        dueThrown(told, station, call, IndexOutOfBoundsException.class);
    }

    // The digest holds all that can be asked for, so that it shows that a call that throws changes nothing.
    static void dueThrown(String told, AirStation station, Call call, Class<?> want) {
        long before = station.digest();
        dueText(told, answerOf(call), want.getSimpleName());
        due(told + ": the digest behind the exception", station.digest(), before);
    }

    /** The answer as a text, or the name of what was thrown. */
    static String answerOf(Call call) {
        try {
            return String.valueOf(call.make());
        } catch (RuntimeException thrown) {
            return thrown.getClass().getSimpleName();
        }
    }

    static void write(AirStation station, String text) {
        station.clearText();
        for (int index = 0; index < text.length(); index++) {
            due("append in " + text, station.append(text.charAt(index)), index + 1);
        }
    }

    static void tell(String what) {
        wrong++;
        if (wrong <= 50) {
            System.out.println(subject + what);
        }
    }

    static void end() {
        System.out.println(made + " answers, " + wrong + " of them wrong");
        if (made == 0 || wrong > 0) {
            System.exit(1);
        }
    }
}
