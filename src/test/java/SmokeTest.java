public final class SmokeTest {
    public static void main(String[] args) {
        ActorHouse house = new ActorHouse();
        if (house.build() != -1) {
            System.out.println("build() of no text must answer -1");
            System.exit(1);
        }
    }
}
