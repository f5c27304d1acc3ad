import com.sun.management.ThreadMXBean;
import java.lang.management.ManagementFactory;

/**
 * All calls of a run live in one room of some 7.3 million fields and elements, so 512 calls must make
 * far less than that, and calls that are made often make next to nothing.
 */
public final class RoomTest {
    private static final Checks CHECKS = new Checks();
    private static final ThreadMXBean THREADS = (ThreadMXBean) ManagementFactory.getThreadMXBean();
    private static final long ROOM = 8_000_000;
    private static final long NEXT_TO_NOTHING = 100_000;

    public static void main(String[] args) {
        if (THREADS.isThreadAllocatedMemorySupported()) {
            loops();
            calls();
            messages();
            asking();
            starts();
            longTexts();
            shortTexts();
        }
        CHECKS.finish();
    }

    private static long bytes() {
        return THREADS.getThreadAllocatedBytes(Thread.currentThread().getId());
    }

    private static void stepsMakeNothing(String what, String text, int mailbox) {
        ActorHouse house = CHECKS.started(text, 400, mailbox);
        house.step(0, 200);
        long before = bytes();
        for (int i = 0; i < 250; i++) {
            house.step(0, 200);
            house.step(1, 200);
        }
        long made = bytes() - before;
        CHECKS.isTrue(what + " make next to nothing", made < NEXT_TO_NOTHING);
    }

    private static void loops() {
        stepsMakeNothing("loops", "actor Main{var n:int;new(){var x:int=0;while 1{1;none;this;x;x=x+1;swap(x,2);swap(this.n,x);"
            + "recover{give 1;};if x{tell has(this);}}}}", 1);
    }

    private static void calls() {
        stepsMakeNothing("calls", "actor Main{new(){while 1{this.f(8);}}fun ref f(k:int):int{var a:int=k;if k{this.f(k-1);this.g(1,2,3,4,5,6);}"
            + "return a;}fun ref g(a:int,b:int,c:int,d:int,e:int,f:int){}}", 1);
    }

    private static void messages() {
        stepsMakeNothing("messages", "class A{var n:int;new(){}}actor Main{new(){var w:W=new W(this);var v:val A=new val A();while 1{w!b(v,1);}}}"
            + "actor W{var m:Main;var w:W;new(m:Main){this.m=m;}be b(v:val A,n:int){if v.n{}if n{this.w!b(v,n);}}}", 2);
    }

    private static void asking() {
        ActorHouse house = CHECKS.started("class A{var a:ref A;new(a:ref A){this.a=a;}}actor Main{var a:ref A;new(){while 1{this.a=new A(this.a);}}}",
            400, 1);
        for (int i = 0; i < 20; i++) {
            house.step(0, 200);
        }
        house.show(0, 0);
        long before = bytes();
        for (int i = 0; i < 512; i++) {
            house.show(0, 0);
            house.peek(0, 0);
            house.letter(i);
            house.told(i, 0);
            house.world(i);
            house.rights(0, 1, 2);
        }
        long made = bytes() - before;
        CHECKS.isTrue("asking makes next to nothing", made < NEXT_TO_NOTHING);
    }

    private static void starts() {
        ActorHouse house = CHECKS.built("actor Main{var n:int;new(){while this.n<11{this.n=this.n+1;new Main();}}}");
        house.start(400, 6);
        house.step(0, 200);
        long before = bytes();
        for (int i = 0; i < 256; i++) {
            house.start(400, 6);
            house.step(0, 200);
        }
        long made = bytes() - before;
        CHECKS.isTrue("starts make next to nothing", made < NEXT_TO_NOTHING);
    }

    private static void longTexts() {
        String[] texts = {"tell 1" + Checks.repeat("+1", 970) + ";", "this" + Checks.repeat(".f()", 480) + ";",
            "this" + Checks.repeat(".f(1)", 380) + ";", Checks.repeat("x;", 970), Checks.repeat("if 1{}", 320),
            Checks.repeat("(1);", 480)};
        for (String text : texts) {
            ActorHouse house = new ActorHouse();
            long before = bytes();
            for (int i = 0; i < 5; i++) {
                Checks.write(house, "actor Main{new(){" + text + "}}");
                house.build();
            }
            long made = bytes() - before;
            CHECKS.isTrue("five builds of long texts have room", made < ROOM);
        }
    }

    private static void shortTexts() {
        ActorHouse house = new ActorHouse();
        long before = bytes();
        for (int i = 0; i < 256; i++) {
            Checks.feed(house, "actor Main{new(){}} ");
            house.build();
        }
        long made = bytes() - before;
        CHECKS.isTrue("256 builds of short texts have room", made < ROOM);
    }
}
