import java.io.IOException;
import java.nio.file.Files;
import java.nio.file.Path;

/** What the tests share: texts are fed in, answers are compared, and what is wrong is printed and counted. */
final class Checks {
    private static final Path DOCUMENT = Path.of("../shared/DOC.md");

    private int count;
    private int wrong;
    private String sentence = "";
    private String document;

    /**
     * What comes next is a test of these words. They must stand in the document, so that a test can't
     * outlive the sentence that it is for.
     */
    void sentence(String words) {
        sentence = "[" + words + "] ";
        if (document == null) {
            document = readDocument();
        }
        isTrue("these words stand in the document", document.isEmpty() || document.contains(words));
    }

    /** Blanks and lines' ends are all one; empty where there is no document to read. */
    private static String readDocument() {
        try {
            return Files.isReadable(DOCUMENT) ? Files.readString(DOCUMENT).replaceAll("\\s+", " ") : "";
        } catch (IOException e) {
            return "";
        }
    }

    void same(String what, long got, long due) {
        count++;
        if (got != due) {
            wrong++;
            System.out.println(sentence + what + " answered " + got + ", due is " + due);
        }
    }

    void same(String what, String got, String due) {
        count++;
        if (!got.equals(due)) {
            wrong++;
            System.out.println(sentence + what + " is '" + got + "', due is '" + due + "'");
        }
    }

    void isTrue(String what, boolean got) {
        same(what, got ? 1 : 0, 1);
    }

    void isFalse(String what, boolean got) {
        same(what, got ? 1 : 0, 0);
    }

    /** Ends the test, with exit code 1 if an answer was wrong. */
    void finish() {
        if (wrong > 0) {
            System.out.println(wrong + " of " + count + " answers are wrong");
            System.exit(1);
        }
    }

    static int[] words(String twenty) {
        int[] words = new int[5];
        for (int i = 0; i < 20; i++) {
            words[i / 4] = words[i / 4] << 8 | twenty.charAt(i);
        }
        return words;
    }

    static int feed(ActorHouse house, String twenty) {
        int[] w = words(twenty);
        return house.feed(w[0], w[1], w[2], w[3], w[4]);
    }

    /** The text of a new house, or of one whose text is empty, becomes this one. */
    static void write(ActorHouse house, String text) {
        for (int i = 0; i < text.length(); i += 20) {
            int[] words = new int[5];
            for (int k = 0; k < 20; k++) {
                char c = i + k < text.length() ? text.charAt(i + k) : ' ';
                words[k / 4] = words[k / 4] << 8 | c;
            }
            house.feed(words[0], words[1], words[2], words[3], words[4]);
        }
        house.end(text.length());
    }

    ActorHouse built(String text) {
        ActorHouse house = new ActorHouse();
        write(house, text);
        if (house.build() < 1) {
            same("fault " + house.fault(0) + " at " + house.fault(1) + " of " + text, house.fault(0), 0);
        }
        return house;
    }

    ActorHouse started(String text, int cells, int mailbox) {
        ActorHouse house = built(text);
        isTrue("start of " + text, house.start(cells, mailbox));
        return house;
    }

    /** The text has no fault. */
    void good(String text) {
        ActorHouse house = new ActorHouse();
        write(house, text);
        int kinds = house.build();
        same("fault(0) of " + text, house.fault(0), 0);
        same("fault(1) of " + text, house.fault(1), ActorHouse.NONE);
        isTrue("build() gives the kinds of " + text, kinds >= 1 && kinds == house.program(0));
    }

    /** The text, without its one mark ^, has a fault where the mark stands. */
    void bad(int number, String marked) {
        int place = marked.indexOf('^');
        bad(number, place, marked.substring(0, place) + marked.substring(place + 1));
    }

    void bad(int number, int place, String text) {
        ActorHouse house = new ActorHouse();
        write(house, text);
        same("build() of " + text, house.build(), ActorHouse.NONE);
        same("fault(0) of " + text, house.fault(0), number);
        same("fault(1) of " + text, house.fault(1), place);
        same("program(0) behind a fault", house.program(0), ActorHouse.NONE);
        isFalse("start behind a fault", house.start(100, 3));
    }

    /** The text, without its one mark ^, has no fault, or this one where the mark stands. */
    void verdict(boolean isGood, int number, String marked) {
        if (isGood) {
            good(marked.replace("^", ""));
        } else {
            bad(number, marked);
        }
    }

    static String output(ActorHouse house) {
        StringBuilder text = new StringBuilder();
        for (int k = 0; house.letter(k) != 0; k++) {
            text.append((char) house.letter(k));
        }
        return text.toString();
    }

    void shows(ActorHouse house, int actor, int field, String due) {
        int length = house.show(actor, field);
        same("show(" + actor + ", " + field + ")", output(house), due);
        same("length of show(" + actor + ", " + field + ")", length, due.length());
    }

    void peeks(ActorHouse house, int actor, int message, String due) {
        int length = house.peek(actor, message);
        same("peek(" + actor + ", " + message + ")", output(house), due);
        same("length of peek(" + actor + ", " + message + ")", length, due.length());
    }

    /** All that was told so far, as number@actor with commas between. */
    static String told(ActorHouse house) {
        StringBuilder text = new StringBuilder();
        for (int k = 0; k < house.world(4); k++) {
            text.append(k == 0 ? "" : ",").append(house.told(k, 0)).append('@').append(house.told(k, 1));
        }
        return text.toString();
    }

    /** Every actor does what it can, in turns, until none has anything to do. */
    static void runAll(ActorHouse house) {
        boolean busy = true;
        for (int round = 0; round < 1000 && busy; round++) {
            busy = false;
            for (int a = 0; a < house.world(0); a++) {
                busy = house.step(a, 7) > 0 || busy;
            }
        }
    }

    static String repeat(String part, int times) {
        StringBuilder text = new StringBuilder();
        for (int i = 0; i < times; i++) {
            text.append(part);
        }
        return text.toString();
    }
}
