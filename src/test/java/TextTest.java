/** Promises 1 (a new object), 2 (feed) and 3 (end). */
public final class TextTest {
    private static final Checks CHECKS = new Checks();
    private static final String SMALL = "actor Main{new(){}} ";

    public static void main(String[] args) {
        newObject();
        feed();
        feedIsFull();
        end();
        bytesAreInOrder();
        housesAreApart();
        CHECKS.finish();
    }

    private static void newObject() {
        ActorHouse house = new ActorHouse();
        CHECKS.same("NONE", ActorHouse.NONE, -1);
        CHECKS.same("end(1) without text", house.end(1), -1);
        CHECKS.same("end(0) without text", house.end(0), 0);
        for (int what = -1; what <= 8; what++) {
            CHECKS.same("fault before any build", house.fault(what), -1);
            CHECKS.same("program of none", house.program(what), -1);
            CHECKS.same("world of nothing", house.world(what), what < 0 || what > 7 ? -1 : 0);
            CHECKS.same("actor of nothing", house.actor(0, what), -1);
            CHECKS.same("told of nothing", house.told(0, what), 0);
        }
        CHECKS.isFalse("start of no program", house.start(100, 3));
        CHECKS.same("step of nothing", house.step(0, 1), -1);
        CHECKS.same("show of nothing", house.show(0, 0), -1);
        CHECKS.same("peek of nothing", house.peek(0, 0), -1);
        CHECKS.same("letter of nothing", house.letter(0), 0);
    }

    private static void feed() {
        ActorHouse house = new ActorHouse();
        CHECKS.same("first feed", Checks.feed(house, "actor Main{new(){   "), 20);
        CHECKS.same("second feed", Checks.feed(house, "}}                  "), 40);
        CHECKS.same("build of what was fed", house.build(), 1);
        CHECKS.same("feed behind build", Checks.feed(house, SMALL), 20);
        CHECKS.same("feed of zeros", house.feed(0, 0, 0, 0, 0), 40);
        CHECKS.same("feed of ones", house.feed(-1, -1, -1, -1, -1), 60);
        CHECKS.same("build of them", house.build(), -1);
        CHECKS.same("fault of them", house.fault(0), 1);
        CHECKS.same("its place", house.fault(1), 20);
    }

    private static void feedIsFull() {
        ActorHouse house = new ActorHouse();
        for (int i = 1; i <= 100; i++) {
            CHECKS.same("feed " + i, Checks.feed(house, i == 1 ? SMALL : Checks.repeat(" ", 20)), 20 * i);
        }
        CHECKS.same("feed beyond 2000", Checks.feed(house, SMALL), -1);
        CHECKS.same("end of 1981", house.end(1981), 1981);
        CHECKS.same("feed to 2001", Checks.feed(house, SMALL), -1);
        CHECKS.same("nothing came by it", house.end(1982), -1);
        CHECKS.same("end of 1980", house.end(1980), 1980);
        CHECKS.same("feed to 2000", Checks.feed(house, Checks.repeat(" ", 20)), 2000);
        CHECKS.same("build of 2000 characters", house.build(), 1);
        CHECKS.same("the text is empty then", house.end(1), -1);
    }

    private static void end() {
        ActorHouse house = new ActorHouse();
        Checks.feed(house, "actor Main{new(){}}?");
        CHECKS.same("end(-1)", house.end(-1), -1);
        CHECKS.same("end(21)", house.end(21), -1);
        CHECKS.same("end of the least int", house.end(Integer.MIN_VALUE), -1);
        CHECKS.same("end of the greatest int", house.end(Integer.MAX_VALUE), -1);
        CHECKS.same("end(20)", house.end(20), 20);
        CHECKS.same("end(19)", house.end(19), 19);
        CHECKS.same("end(20) behind end(19)", house.end(20), -1);
        CHECKS.same("build of 19", house.build(), 1);
        Checks.feed(house, SMALL);
        CHECKS.same("end(0)", house.end(0), 0);
        CHECKS.same("feed behind end(0)", Checks.feed(house, SMALL), 20);
        CHECKS.same("end(3)", house.end(3), 3);
        CHECKS.same("feed behind end(3)", Checks.feed(house, SMALL), 23);
        CHECKS.same("build of actactor", house.build(), -1);
        CHECKS.same("its place", house.fault(1), 0);
    }

    private static void bytesAreInOrder() {
        ActorHouse house = new ActorHouse();
        CHECKS.same("feed of bytes", house.feed(0x6163746f, 0x72204d61, 0x696e7b6e, 0x65772829, 0x7b7d7d20), 20);
        CHECKS.same("build of bytes", house.build(), 1);
        house.feed(0x6163746f, 0x72204d61, 0x696e7b6e, 0x65772829, 0x7b7d7de9);
        CHECKS.same("build with a character of 233", house.build(), -1);
        CHECKS.same("it can't stand", house.fault(0), 1);
        CHECKS.same("it is at 19", house.fault(1), 19);
    }

    private static void housesAreApart() {
        ActorHouse one = CHECKS.built("actor Main{var n:int;new(){this.n=1;}}");
        ActorHouse two = CHECKS.built("actor Main{var n:int;new(){this.n=2;}}");
        one.start(9, 1);
        two.start(9, 1);
        Checks.runAll(one);
        Checks.runAll(two);
        CHECKS.shows(one, 0, 0, "1");
        CHECKS.shows(two, 0, 0, "2");
        CHECKS.same("the first one's letter stays", one.letter(0), '1');
    }
}
