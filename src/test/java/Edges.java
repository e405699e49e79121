import java.io.IOException;
import java.nio.file.Files;
import java.nio.file.Path;
import java.util.ArrayList;
import java.util.LinkedHashMap;
import java.util.List;
import java.util.Map;

/** Runs a test for each sentence of the document that names a boundary case, and looks that none is left out. */
final class Edges {
    // What a sentence that names no boundary case begins with.
    private static final List<String> NO_EDGE = List.of("Air is counted in", "Receiver.", "Compressors.", "Stages.",
            "When a minute passes,", "Leak tests.", "Text.", "Undo.", "Exceptions.", "Ahead of the calls",
            "Returns that number.", "Returns that value.", "Returns that amount.", "Returns its value.",
            "Returns the compressor.");

    private final Map<String, List<String>> tested = new LinkedHashMap<>();
    private String heading = "";

    void under(String newHeading) {
        heading = newHeading;
    }

    /** Runs the test of a sentence, or of a part of it, under the present heading. */
    void of(String sentence, Runnable test) {
        tested.computeIfAbsent(heading, none -> new ArrayList<>()).add(sentence);
        Checks.speakOf(heading + " (" + sentence + "): ");
        int before = Checks.made();
        try {
            test.run();
        } catch (RuntimeException thrown) {
            Checks.tell("a call that ought to succeed threw " + thrown);
        }
        if (Checks.made() == before) {
            Checks.tell("nothing was looked at");
        }
        Checks.speakOf("");
    }

    /** Each sentence that was tested stands in the document, and each one of the document was tested. */
    void compareWith(Path document) throws IOException {
        Map<String, List<String>> written = sentencesOf(document);
        for (String place : tested.keySet()) {
            String all = String.join(" ", written.getOrDefault(place, List.of()));
            for (String sentence : tested.get(place)) {
                Checks.due(place + " says: " + sentence, all.contains(sentence) ? 1 : 0, 1);
            }
        }
        for (String place : written.keySet()) {
            if (place.equals("Terms") || place.startsWith("Promise ")) {
                lookForTestsOf(place, written.get(place));
            }
        }
    }

    private void lookForTestsOf(String place, List<String> sentences) {
        List<String> parts = tested.getOrDefault(place, List.of());
        for (String sentence : sentences) {
            boolean isTested = parts.stream().anyMatch(sentence::contains)
                    || NO_EDGE.stream().anyMatch(sentence::startsWith);
            Checks.due(place + " has a test of: " + sentence, isTested ? 1 : 0, 1);
        }
    }

    private static Map<String, List<String>> sentencesOf(Path document) throws IOException {
        Map<String, List<String>> all = new LinkedHashMap<>();
        String place = "";
        for (String line : Files.readAllLines(document)) {
            if (line.startsWith("## ")) {
                place = line.substring(3).replaceFirst("^(Promise [0-9]+):.*", "$1");
            } else if (!line.isBlank()) {
                String plain = line.replaceFirst("^([0-9]\\. |- )", "");
                String[] sentences = plain.split("(?<=\\.\\)?) (?=[A-Z(\"])");
                all.computeIfAbsent(place, none -> new ArrayList<>()).addAll(List.of(sentences));
            }
        }
        return all;
    }

    // ---- stations that several tests begin with

    /** Neither the leak nor the demand moves the air: 6000 liters, 6000 millibars. */
    static AirStation still(int... capacities) {
        AirStation station = new AirStation();
        station.set(5, 0);
        station.set(6, 0);
        for (int capacity : capacities) {
            station.addCompressor(capacity);
        }
        return station;
    }

    /** A still station with so much air, 0 to 6000, left in 1000 liters. */
    static AirStation holding(int air) {
        AirStation station = still();
        int toTake = 6000 - air;
        while (toTake > 0) {
            station.set(6, Math.min(toTake, 3000));
            station.pass(1);
            toTake -= Math.min(toTake, 3000);
        }
        station.set(6, 0);
        Checks.due("the air that is left", station.value(1), air);
        return station;
    }

    /** A still station of this time. */
    static AirStation aged(int time, int... capacities) {
        AirStation station = still();
        for (int left = time; left > 0; left -= 600) {
            station.pass(Math.min(left, 600));
        }
        for (int capacity : capacities) {
            station.addCompressor(capacity);
        }
        Checks.due("the time", station.value(7), time);
        return station;
    }

    /** Compressor 0, of 100, is loaded since one minute; there are 6100 liters. */
    static AirStation loadedOne() {
        AirStation station = still(100);
        station.pass(1);
        Checks.dueCompressor("loaded", station, 0, 100, 1, 0, 1, 0, 0, 0, 1);
        return station;
    }

    /** Compressor 0, of 100, became unloaded in the latest minute; 6100 millibars are between its limits. */
    static AirStation unloadedOne() {
        AirStation station = loadedOne();
        station.set(0, 5899);
        station.pass(1);
        Checks.dueCompressor("unloaded", station, 0, 100, 2, 0, 1, 1, 0, 0, 1, 5699, 6099);
        station.set(0, 6100);
        return station;
    }

    /** Compressor 0 alone is below its limit, so that it alone loads, and gains 10 liters a minute. */
    static AirStation firstAlone(int minutes, int... others) {
        AirStation station = still(10);
        for (int capacity : others) {
            station.addCompressor(capacity);
        }
        station.setVolume(970);
        station.pass(minutes);
        Checks.due("loaded minutes of 0", station.compressor(0, 3), minutes);
        Checks.due("those that are loaded", station.value(4), 1);
        return station;
    }

    static void dueOrder(String told, AirStation station, int... numbers) {
        for (int stage = 0; stage < numbers.length; stage++) {
            Checks.due(told + ": atStage(" + stage + ")", station.atStage(stage), numbers[stage]);
            Checks.due(told + ": the stage of " + numbers[stage], station.compressor(numbers[stage], 2), stage);
        }
    }

    /** The call throws for each of the numbers; it is told as the call of the first one of them. */
    static void dueRefused(String told, AirStation station, CallWith call, Class<?> want, int... numbers) {
        for (int number : numbers) {
            Checks.dueThrown(told + " with " + number, station, () -> call.make(number), want);
        }
    }

    /** A call with a number that may throw. */
    interface CallWith {
        Object make(int number);
    }
}
