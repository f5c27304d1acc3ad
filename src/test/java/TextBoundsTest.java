/** The bounds of the text, sentence by sentence: promises 1 to 3, and the text behind promise 4. */
public final class TextBoundsTest {
    private static final Checks CHECKS = new Checks();
    private static final String SMALL = "actor Main{new(){}}";
    private static final String BLANKS = Checks.repeat(" ", 20);
    private static final String RUBBISH = Checks.repeat("?", 20);

    public static void main(String[] args) {
        callsInARow();
        buildsInARow();
        everyCharacter();
        everyByte();
        newObject();
        feedCounts();
        feedAtTheEnd();
        refusedFeed();
        endOfEachLength();
        refusedEnd();
        endCuts();
        textBehindBuild();
        CHECKS.finish();
    }

    private static ActorHouse withLength(int length) {
        ActorHouse house = new ActorHouse();
        Checks.write(house, SMALL + Checks.repeat(" ", Math.max(0, length - SMALL.length())));
        CHECKS.same("end(" + length + ")", house.end(length), length);
        return house;
    }

    private static void callsInARow() {
        CHECKS.sentence("An object is used for at most 512 calls after it has been made");
        ActorHouse house = new ActorHouse();
        CHECKS.same("call 1", Checks.feed(house, "actor Main{new(){whi"), 20);
        CHECKS.same("call 2", Checks.feed(house, "le 1{tell 1;}}}     "), 40);
        CHECKS.same("call 3", house.build(), 1);
        CHECKS.isTrue("call 4", house.start(400, 6));
        for (int call = 5; call <= 511; call++) {
            CHECKS.same("call " + call, house.step(0, 200), 200);
        }
        CHECKS.same("call 512", house.world(3), 507 * 200);
    }

    private static void buildsInARow() {
        CHECKS.sentence("An object is used for at most 512 calls after it has been made");
        ActorHouse house = new ActorHouse();
        for (int round = 0; round < 128; round++) {
            CHECKS.same("feed", Checks.feed(house, SMALL + " "), 20);
            CHECKS.same("build", house.build(), 1);
            CHECKS.isTrue("start", house.start(1 + round, 1));
            CHECKS.same("build of nothing", house.build(), -1);
        }
    }

    private static void everyCharacter() {
        CHECKS.sentence("THE TEXT has at most 2000 characters, 0 .. 255.");
        for (char c = 0; c <= 255; c++) {
            ActorHouse house = new ActorHouse();
            CHECKS.same("feed with character " + (int) c, Checks.feed(house, SMALL + c), 20);
            CHECKS.same("build with character " + (int) c, house.build(), c == ' ' ? 1 : -1);
            CHECKS.same("fault(0) of character " + (int) c, house.fault(0), c == ' ' ? 0 : 1);
            CHECKS.same("fault(1) of character " + (int) c, house.fault(1), c == ' ' ? -1 : 19);
        }
    }

    private static void everyByte() {
        CHECKS.sentence("Twenty characters (the four bytes of a, the highest first, then those of b, ..) come to the text");
        for (int place = 0; place < 20; place++) {
            for (char c : new char[] {0, '?', 127, 128, 255}) {
                ActorHouse house = new ActorHouse();
                Checks.feed(house, BLANKS.substring(0, place) + c + BLANKS.substring(place + 1));
                house.build();
                CHECKS.same("fault(0) of " + (int) c + " at " + place, house.fault(0), 1);
                CHECKS.same("fault(1) of " + (int) c + " at " + place, house.fault(1), place);
            }
        }
        ActorHouse house = new ActorHouse();
        CHECKS.same("five ints", house.feed(0x6163746f, 0x72204d61, 0x696e7b6e, 0x65772829, 0x7b7d7d20), 20);
        CHECKS.same("they are a program", house.build(), 1);
    }

    private static void newObject() {
        CHECKS.sentence("`ActorHouse()`: No text, no program.");
        ActorHouse house = new ActorHouse();
        CHECKS.same("end(1)", house.end(1), -1);
        CHECKS.same("end(0)", house.end(0), 0);
        CHECKS.same("program(0)", house.program(0), -1);
        CHECKS.isFalse("start(400, 6)", house.start(400, 6));
        CHECKS.same("world(0)", house.world(0), 0);
        CHECKS.same("letter(0)", house.letter(0), 0);
        CHECKS.same("the first feed", Checks.feed(house, BLANKS), 20);
    }

    private static void feedCounts() {
        CHECKS.sentence("come to the text: how many it has");
        ActorHouse house = new ActorHouse();
        for (int count = 20; count <= 2000; count += 20) {
            CHECKS.same("feed", Checks.feed(house, BLANKS), count);
        }
        CHECKS.same("end(2000)", house.end(2000), 2000);
        house = withLength(1);
        CHECKS.same("feed behind one character", Checks.feed(house, BLANKS), 21);
        house = withLength(19);
        CHECKS.same("feed behind nineteen", Checks.feed(house, BLANKS), 39);
    }

    private static void feedAtTheEnd() {
        CHECKS.sentence("NONE, and none come, if there would be more than 2000.");
        for (int length = 1975; length <= 2000; length++) {
            ActorHouse house = withLength(length);
            int due = length <= 1980 ? length + 20 : -1;
            CHECKS.same("feed behind " + length, Checks.feed(house, BLANKS), due);
        }
    }

    private static void refusedFeed() {
        CHECKS.sentence("NONE, and none come, if there would be more than 2000.");
        for (int length : new int[] {1981, 1990, 1999, 2000}) {
            ActorHouse house = withLength(length);
            CHECKS.same("feed", Checks.feed(house, RUBBISH), -1);
            CHECKS.same("no character came", house.end(length + 1), -1);
            CHECKS.same("feed again", Checks.feed(house, RUBBISH), -1);
            CHECKS.same("all that was there stayed", house.build(), 1);
        }
        ActorHouse house = withLength(2000);
        Checks.feed(house, RUBBISH);
        CHECKS.same("end(1980) behind a refused feed", house.end(1980), 1980);
        CHECKS.same("then there is room again", Checks.feed(house, BLANKS), 2000);
        CHECKS.same("and it is the old text", house.build(), 1);
    }

    private static void endOfEachLength() {
        CHECKS.sentence("The text keeps its first n characters: n; NONE if n is not 0 .. as many as it has.");
        for (int length : new int[] {0, 1, 19, 20, 21, 1999, 2000}) {
            CHECKS.same("end(-1) of " + length, withLength(length).end(-1), -1);
            CHECKS.same("end(0) of " + length, withLength(length).end(0), 0);
            CHECKS.same("end(length - 1) of " + length, withLength(length).end(length - 1), length - 1);
            CHECKS.same("end(length) of " + length, withLength(length).end(length), length);
            CHECKS.same("end(length + 1) of " + length, withLength(length).end(length + 1), -1);
            CHECKS.same("end of the least int", withLength(length).end(Integer.MIN_VALUE), -1);
            CHECKS.same("end of the greatest int", withLength(length).end(Integer.MAX_VALUE), -1);
        }
    }

    private static void refusedEnd() {
        CHECKS.sentence("NONE if n is not 0 .. as many as it has.");
        ActorHouse house = withLength(19);
        CHECKS.same("end(20)", house.end(20), -1);
        CHECKS.same("end(-1)", house.end(-1), -1);
        CHECKS.same("end(19), nothing went", house.end(19), 19);
        CHECKS.same("build", house.build(), 1);
    }

    private static void endCuts() {
        CHECKS.sentence("The text keeps its first n characters: n");
        ActorHouse house = new ActorHouse();
        Checks.feed(house, SMALL + "?");
        CHECKS.same("end(19)", house.end(19), 19);
        CHECKS.same("end(20), it is gone", house.end(20), -1);
        CHECKS.same("build without the last character", house.build(), 1);
        Checks.feed(house, SMALL + "?");
        CHECKS.same("end(20)", house.end(20), 20);
        CHECKS.same("build with the last character", house.build(), -1);
        Checks.feed(house, RUBBISH);
        CHECKS.same("end(0)", house.end(0), 0);
        CHECKS.same("feed behind end(0)", Checks.feed(house, SMALL + " "), 20);
        CHECKS.same("build behind end(0)", house.build(), 1);
        Checks.feed(house, SMALL + "?");
        CHECKS.same("end(18)", house.end(18), 18);
        CHECKS.same("feed behind end(18)", Checks.feed(house, "}" + BLANKS.substring(1)), 38);
        CHECKS.same("build behind end(18)", house.build(), 1);
    }

    private static void textBehindBuild() {
        CHECKS.sentence("The text (which is empty then) becomes the program");
        for (String text : new String[] {SMALL, "?", ""}) {
            ActorHouse house = new ActorHouse();
            Checks.write(house, text);
            house.build();
            CHECKS.same("end(1) behind build", house.end(1), -1);
            CHECKS.same("end(0) behind build", house.end(0), 0);
            CHECKS.same("build of the empty text", house.build(), -1);
            CHECKS.same("its fault", house.fault(0), 1);
            CHECKS.same("its place", house.fault(1), 0);
            CHECKS.same("feed behind build", Checks.feed(house, SMALL + " "), 20);
            CHECKS.same("build of the new text", house.build(), 1);
        }
        ActorHouse house = withLength(2000);
        house.build();
        CHECKS.same("feed behind a full text", Checks.feed(house, BLANKS), 20);
    }
}
