import java.util.Random;

/** No call throws or fails to end, whatever it is given and in whatever state; and the same calls answer the same. */
public final class StormTest {
    private static final Checks CHECKS = new Checks();
    private static final int CALLS = 512;

    private static final String[] PROGRAMS = {
        "class P{var x:int;new(x:int){this.x=x;}fun ref move(d:int):int{this.x=this.x+d;return this.x;}}"
            + "actor Main{var a:W;new(){this.a=new W(this,1);this.a!hit(new iso P(1),4);}be done(p:iso P,n:int){tell p.move(n);}}"
            + "actor W{var m:Main;var n:int;new(m:Main,n:int){this.m=m;this.n=n;}be hit(p:iso P,k:int){this.n=this.n+p.move(k);"
            + "if 0<k{this!hit(consume p,k-1);}else{this.m!done(consume p,this.n);}}}",
        "class C{var v:int;var next:iso C;new(x:int){this.v=x;}fun ref put(n:iso C){this.next=consume n;}}"
            + "actor Main{var l:iso C;var n:int;new(){while this.n<9{this.n=this.n+1;var c:iso C=new iso C(this.n*this.n);"
            + "c.put(swap(this.l,none));this.l=consume c;}this!go(recover{var c:ref C=new C(0);c.v=7;give c;});}"
            + "be go(c:iso C){c.v=c.v+1;new Main();this!go(consume c);}}",
        "class T{var a:trn U;var b:box U;new(){this.a=new trn U(1);}fun ref turn():val U{var x:trn U=swap(this.a,new trn U(2));"
            + "x.n=x.n+1;this.b=x;return consume x;}}class U{var n:int;new(n:int){this.n=n;}}actor Main{var t:ref T;"
            + "new(){this.t=new T();while 1{this!next(this.t.turn());}}be next(u:val U){tell u.n;this.t.a.n=this.t.a.n+u.n;}}",
    };

    private static final String[] PIECES = {"class", "actor", "new", "fun", "be", "var", "if", "else", "while", "return", "tell",
        "give", "has", "swap", "none", "this", "consume", "recover", "iso", "trn", "ref", "val", "box", "int", "{", "}", "(", ")",
        ";", ",", ":", ".", "!", "=", "==", "<", "+", "-", "*", " ", "a", "x", "n", "Main", "C", "P", "1", "0", "\u00ff", "\u0000"};

    public static void main(String[] args) {
        for (int seed = 1; seed <= 150; seed++) {
            int[] once = storm(seed);
            int[] again = storm(seed);
            for (int i = 0; i < CALLS; i++) {
                CHECKS.same("call " + i + " of storm " + seed + ", done again,", again[i], once[i]);
            }
        }
        for (int seed = 1; seed <= 3000; seed++) {
            spoiled(new Random(seed));
        }
        CHECKS.finish();
    }

    private static int[] storm(int seed) {
        Random random = new Random(seed);
        ActorHouse house = new ActorHouse();
        int[] answers = new int[CALLS];
        String text = PROGRAMS[seed % PROGRAMS.length];
        if (seed % 4 == 0) {
            text = spoil(text, random);
        }
        Checks.write(house, text);
        house.build();
        house.start(20 + random.nextInt(380), 1 + random.nextInt(6));
        for (int i = 0; i < CALLS; i++) {
            answers[i] = call(house, random);
        }
        return answers;
    }

    private static int number(Random random) {
        int[] extremes = {Integer.MIN_VALUE, Integer.MAX_VALUE, -1, 0, 1, 12, 200, 201, 400, 401, 2000, 3000};
        int choice = random.nextInt(20);
        return choice < extremes.length ? extremes[choice] : random.nextInt(8);
    }

    private static int call(ActorHouse house, Random random) {
        int a = number(random);
        int b = number(random);
        switch (random.nextInt(20)) {
            case 0: return random.nextInt(8) == 0 ? house.feed(a, b, a, b, a) : house.end(a);
            case 1: return random.nextInt(12) == 0 ? house.build() : house.fault(a);
            case 2: return house.program(a);
            case 3: return house.rights(a, b, number(random));
            case 4: return random.nextInt(4) == 0 && house.start(a, b) ? 1 : 0;
            case 5: return house.world(a);
            case 6: return house.actor(a, b);
            case 7: return house.told(a, b);
            case 8: return house.show(random.nextInt(3), b);
            case 9: return house.show(a, b);
            case 10: return house.peek(random.nextInt(3), b);
            case 11: return house.peek(a, b);
            case 12: return house.letter(a);
            case 13: return house.step(a, b);
            default: return house.step(random.nextInt(3), 1 + random.nextInt(60));
        }
    }

    private static String spoil(String text, Random random) {
        StringBuilder spoiled = new StringBuilder(text);
        for (int i = random.nextInt(3); i >= 0; i--) {
            int at = random.nextInt(spoiled.length());
            int until = Math.min(spoiled.length(), at + random.nextInt(6));
            spoiled.replace(at, until, PIECES[random.nextInt(PIECES.length)]);
        }
        return spoiled.toString();
    }

    /** A spoiled program either has a fault at a place in its text, or runs. */
    private static void spoiled(Random random) {
        String text = spoil(PROGRAMS[random.nextInt(PROGRAMS.length)], random);
        ActorHouse house = new ActorHouse();
        Checks.write(house, text);
        if (house.build() == ActorHouse.NONE) {
            CHECKS.isTrue("a fault's number", house.fault(0) >= 1 && house.fault(0) <= 8);
            CHECKS.isTrue("a fault's place", house.fault(1) >= 0 && house.fault(1) <= text.length());
        } else {
            house.start(100, 2);
            for (int i = 0; i < 20; i++) {
                int done = house.step(random.nextInt(house.world(0)), 50);
                CHECKS.isTrue("instructions done", done >= 0 && done <= 50);
            }
        }
    }
}
