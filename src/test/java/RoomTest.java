import com.sun.management.ThreadMXBean;
import java.lang.management.ManagementFactory;

/** LANGUAGE.md's rule 12: an object makes its rows once, in its constructor; no call makes anything. */
public final class RoomTest {
    private static final String DEAREST = "k1 9;" + "m60 255;".repeat(8) + "t3 0 255;".repeat(6);
    private static final int MOST_OF_OBJECT = 20000;
    /** Each call comes ten times at least: by the least object that one of them made, there would be more. */
    private static final int MOST_OF_CALLS = 100;

    public static void main(String[] args) {
        if (!(ManagementFactory.getThreadMXBean() instanceof ThreadMXBean bytes)) {
            System.out.println("RoomTest: this machine does not count what is made");
            return;
        }
        // what the machine itself makes at the first time is no matter
        calls(new TollDelay());
        bytes.getCurrentThreadAllocatedBytes();
        long before = bytes.getCurrentThreadAllocatedBytes();
        TollDelay x = new TollDelay();
        long made = bytes.getCurrentThreadAllocatedBytes();
        calls(x);
        long called = bytes.getCurrentThreadAllocatedBytes();
        Check.due("bytes of an object are few", made - before <= MOST_OF_OBJECT ? 1 : 0, 1);
        Check.due("bytes of its calls are none: " + (called - made), called - made <= MOST_OF_CALLS ? 1 : 0, 1);
        Check.end("RoomTest");
    }

    private static void calls(TollDelay x) {
        for (int i = 0; i < DEAREST.length(); i++) {
            x.feed(DEAREST.charAt(i));
        }
        x.bridge();
        x.fault();
        for (int times = 0; times < 10; times++) {
            deeds(x);
            questions(x);
            kept(x);
        }
    }

    private static void deeds(TollDelay x) {
        x.seat(5);
        x.tell(0);
        x.rise();
        x.learn(1);
        x.minute(60);
        x.anew();
        x.drift(30);
        x.undo(30);
    }

    private static void questions(TollDelay x) {
        x.told(15);
        x.told(16);
        x.told(17);
        x.matter(7, 2);
        x.matter(7, 3);
        x.traveller(5, 5);
        x.traveller(5, 6);
        x.stay(5, 7);
        x.talk(5, 0);
        x.queue(1);
        x.dry(60, 99);
    }

    private static void kept(TollDelay x) {
        x.stayed(5, 100);
        x.couldBe();
        x.ask();
        x.write(5, 9999);
        x.judge();
        x.tear();
        x.seed(1);
        x.keep(1);
        x.goBack(1);
    }
}
