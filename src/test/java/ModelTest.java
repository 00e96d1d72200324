import java.util.ArrayList;
import java.util.List;
import java.util.Random;

/** All promises: random runs of calls, each asked of the class and of the slow model beside it. */
public final class ModelTest {
    private static final int RUNS = 6000;
    private static final int CALLS = 512;
    private static final String[] NAMES = {"feed", "bridge", "fault", "told", "matter", "traveller", "seat", "tell", "rise",
        "learn", "minute", "anew", "drift", "undo", "stay", "talk", "queue", "dry", "stayed", "couldBe", "ask", "write", "judge",
        "tear", "seed", "keep", "goBack"};
    /** How often each call comes, beside the others. */
    private static final int[] WEIGHTS = {1, 0, 2, 40, 8, 30, 30, 40, 14, 4, 10, 5, 6, 8, 8, 14, 5, 3, 4, 5, 6, 5, 6, 1, 3, 2, 3};

    private final Random random;
    private final TollDelay x = new TollDelay();
    private final Model y = new Model();
    private final List<String> run = new ArrayList<>();
    private int calls = 0;

    private ModelTest(long start) {
        random = new Random(start);
    }

    public static void main(String[] args) {
        int wrong = 0;
        for (int i = 0; i < RUNS && wrong < 3; i++) {
            ModelTest test = new ModelTest(i);
            if (!test.runs()) {
                wrong++;
                System.out.println("run " + i + " of the model test goes wrong at its last call:");
                for (String call : test.run) {
                    System.out.println("  " + call);
                }
            }
        }
        System.out.println("ModelTest: " + RUNS + " runs" + (wrong == 0 ? " as due" : ", some wrong"));
        if (wrong != 0) {
            System.exit(1);
        }
    }

    private boolean runs() {
        int texts = random.nextInt(8) == 0 ? 12 : 1 + random.nextInt(2);
        for (int i = 0; i < texts; i++) {
            if (!text(random.nextInt(5) == 0 || texts == 12)) {
                return false;
            }
            int until = texts == 12 ? calls + 6 : calls + CALLS / texts / 2 + 60;
            while (calls < until && calls < CALLS) {
                if (!call(pick())) {
                    return false;
                }
            }
        }
        return true;
    }

    private int pick() {
        int all = 0;
        for (int weight : WEIGHTS) {
            all += weight;
        }
        int left = random.nextInt(all);
        int which = 0;
        while (left >= WEIGHTS[which]) {
            left -= WEIGHTS[which];
            which++;
        }
        return which;
    }

    private boolean text(boolean spoil) {
        StringBuilder text = new StringBuilder("k" + (1 + random.nextInt(random.nextBoolean() ? 60 : 8)) + " " + (1 + random.nextInt(9)) + ";");
        int matters = random.nextInt(4) == 0 ? random.nextInt(spoil ? 10 : 9) : 2 + random.nextInt(5);
        int travellers = random.nextInt(4) == 0 ? random.nextInt(spoil ? 8 : 7) : 2 + random.nextInt(4);
        int dense = random.nextInt(3);
        int few = random.nextInt(3) == 0 ? 8 : 60;
        while (matters + travellers > 0) {
            if (random.nextInt(matters + travellers) < matters) {
                text.append("m" + (1 + random.nextInt(few)) + " " + set(dense) + ";");
                matters--;
            } else {
                text.append("t" + random.nextInt(5) + " " + random.nextInt(random.nextBoolean() ? 10 : 3) + " " + set(2) + ";");
                travellers--;
            }
        }
        if (spoil) {
            spoil(text);
        }
        for (int i = 0; i < text.length() && calls < CALLS; i++) {
            if (!same("feed(" + (int) text.charAt(i) + ")", x.feed(text.charAt(i)), y.feed(text.charAt(i)))) {
                return false;
            }
        }
        return same("bridge()", x.bridge(), y.bridge()) && same("fault()", x.fault(), y.fault());
    }

    private int set(int dense) {
        int set = random.nextInt(256);
        if (dense == 0) {
            set &= random.nextInt(256);
        }
        return dense == 2 ? set | random.nextInt(256) : set;
    }

    private void spoil(StringBuilder text) {
        String letters = "kmt;0123456789  x\u00ff-";
        for (int times = 1 + random.nextInt(2); times > 0; times--) {
            int at = random.nextInt(text.length());
            char letter = letters.charAt(random.nextInt(letters.length()));
            switch (random.nextInt(5)) {
                case 0: text.insert(at, letter); break;
                case 1: text.deleteCharAt(at); break;
                case 2: text.setCharAt(at, letter); break;
                case 3: text.setLength(at); break;
                default: text.insert(at, ' '); break;
            }
            if (text.length() == 0) {
                return;
            }
        }
    }

    /** A number up to most, now and then one beyond it, or far off. */
    private int some(int most) {
        int kind = random.nextInt(40);
        if (kind == 0) {
            return Check.WILD[random.nextInt(Check.WILD.length)];
        }
        return kind < 4 ? random.nextInt(most + 3) - 1 : random.nextInt(most + 1);
    }

    private int someTraveller() {
        return some(Math.max(0, y.told(3) - 1));
    }

    private int someMatter() {
        return some(Math.max(0, y.told(2) - 1));
    }

    private boolean call(int which) {
        String name = NAMES[which];
        int t = someTraveller(), m = someMatter();
        switch (name) {
            case "feed": { int a = some(255); return same("feed(" + a + ")", x.feed(a), y.feed(a)); }
            case "fault": return same("fault()", x.fault(), y.fault());
            case "told": { int a = some(20); return same("told(" + a + ")", x.told(a), y.told(a)); }
            case "matter": { int a = some(3); return same("matter(" + m + ", " + a + ")", x.matter(m, a), y.matter(m, a)); }
            case "traveller": { int a = some(6); return same("traveller(" + t + ", " + a + ")", x.traveller(t, a), y.traveller(t, a)); }
            case "seat": return same("seat(" + t + ")", x.seat(t), y.seat(t));
            case "tell": return same("tell(" + m + ")", x.tell(m), y.tell(m));
            case "rise": return same("rise()", x.rise(), y.rise());
            case "learn": return same("learn(" + m + ")", x.learn(m), y.learn(m));
            case "minute": { int a = some(random.nextInt(4) == 0 ? 60 : 9); return same("minute(" + a + ")", x.minute(a), y.minute(a)); }
            case "anew": return same("anew()", x.anew(), y.anew());
            case "drift": { int a = some(random.nextInt(3) == 0 ? 30 : 6); return same("drift(" + a + ")", x.drift(a), y.drift(a)); }
            case "undo": { int a = some(random.nextInt(4) == 0 ? 30 : 4); return same("undo(" + a + ")", x.undo(a), y.undo(a)); }
            default: return callMore(name, t, m);
        }
    }

    private boolean callMore(String name, int t, int m) {
        switch (name) {
            case "stay": return same("stay(" + t + ", " + m + ")", x.stay(t, m), y.stay(t, m));
            case "talk": { int a = some(3); return same("talk(" + t + ", " + a + ")", x.talk(t, a), y.talk(t, a)); }
            case "queue": { int a = some(1); return same("queue(" + a + ")", x.queue(a), y.queue(a)); }
            case "dry": { int a = some(60), b = some(100); return same("dry(" + a + ", " + b + ")", x.dry(a, b), y.dry(a, b)); }
            case "stayed": {
                int a = random.nextBoolean() ? Math.max(0, y.stay(t, m)) : some(100);
                return same("stayed(" + t + ", " + a + ")", x.stayed(t, a), y.stayed(t, a));
            }
            case "couldBe": return same("couldBe()", x.couldBe(), y.couldBe());
            case "ask": return same("ask()", x.ask(), y.ask());
            case "write": {
                int a = random.nextInt(3) > 0 ? Math.max(0, y.traveller(t, 3)) : some(9999);
                return same("write(" + t + ", " + a + ")", x.write(t, a), y.write(t, a));
            }
            case "judge": return same("judge()", x.judge(), y.judge());
            case "tear": return same("tear()", x.tear(), y.tear());
            case "seed": { int a = random.nextInt(); return same("seed(" + a + ")", x.seed(a), y.seed(a)); }
            case "keep": { int a = some(1); return same("keep(" + a + ")", x.keep(a), y.keep(a)); }
            default: { int a = some(1); return same("goBack(" + a + ")", x.goBack(a), y.goBack(a)); }
        }
    }

    private boolean same(String call, int got, int want) {
        calls++;
        run.add(call + " = " + got + (got == want ? "" : ", the model answers " + want));
        return got == want;
    }
}
