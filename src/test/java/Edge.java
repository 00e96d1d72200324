import java.util.ArrayList;
import java.util.Arrays;
import java.util.List;

/**
 * A run of calls, told in words ("seat 0", "dry 60 99"), so that it can be done again on another object: what a refused
 * call changed is seen by asking two objects of the same run, one with that call and one without it.
 */
final class Edge {
    static final int NONE = Check.NONE, UNKNOWN = Check.UNKNOWN, OUTSIDE = Check.OUTSIDE, NOT = Check.NOT, FULL = Check.FULL;
    static final int LEAST = Integer.MIN_VALUE, MOST = Integer.MAX_VALUE;
    private static final int PROMISED_CALLS = 512;

    private final TollDelay x = new TollDelay();
    private final List<String> run = new ArrayList<>();
    private boolean beyond = false;

    private Edge() {
    }

    static Edge fresh() {
        return new Edge();
    }

    /** A run that begins with a sound text. */
    static Edge of(String text) {
        Edge edge = new Edge().feeds(text).does("bridge");
        if (edge.x.fault() != NONE) {
            Check.due("fault of the test's own text " + text, edge.x.fault(), NONE);
        }
        return edge;
    }

    /** From here on more calls may come than the document promises: some counts can't be seen otherwise. */
    Edge beyondPromised() {
        beyond = true;
        return this;
    }

    Edge feeds(String text) {
        for (int i = 0; i < text.length(); i++) {
            does("feed " + (int) text.charAt(i));
        }
        return this;
    }

    Edge does(String... calls) {
        for (String call : calls) {
            answer(call);
        }
        return this;
    }

    Edge times(int n, String... calls) {
        for (int i = 0; i < n; i++) {
            does(calls);
        }
        return this;
    }

    Edge due(String call, int want) {
        Check.due(named(call), answer(call), want);
        return this;
    }

    /** Each what, from 0 on, of a call that ends in it. */
    Edge dueRow(String call, int... wants) {
        for (int what = 0; what < wants.length; what++) {
            due(call + " " + what, wants[what]);
        }
        return this;
    }

    Edge refused(String call, int want) {
        Check.due(named(call), done(run, List.of(call)).get(0), want);
        for (List<String> look : looks(true)) {
            List<String> ahead = new ArrayList<>(run);
            ahead.add(call);
            Check.same("behind " + named(call) + " " + look.get(0), "" + done(ahead, look), "" + done(run, look));
        }
        return this;
    }

    Edge refusedFor(String call, int want, int... arguments) {
        for (int argument : arguments) {
            refused(call.replace("?", "" + argument), want);
        }
        return this;
    }

    /** A text with a fault: it is gone, fault() tells where, and all else is as it was. */
    Edge faulty(String text, int kind, int at) {
        List<String> ahead = new ArrayList<>(run);
        for (int i = 0; i < text.length(); i++) {
            ahead.add("feed " + (int) text.charAt(i));
        }
        String want = "[" + (-10 - kind) + ", " + at + ", 0]";
        Check.same("bridge, fault and told 4 of '" + text + "'", "" + done(ahead, List.of("bridge", "fault", "told 4")), want);
        ahead.add("bridge");
        for (List<String> look : looks(false)) {
            Check.same("behind '" + text + "' " + look.get(0), "" + done(ahead, look), "" + done(run, look));
        }
        return this;
    }

    /** What a call that changes nothing answers now. */
    int now(String call) {
        return call(x, call);
    }

    private String named(String call) {
        int last = run.lastIndexOf("bridge");
        List<String> deeds = run.subList(last + 1, run.size());
        List<String> shown = deeds.size() > 12 ? deeds.subList(deeds.size() - 12, deeds.size()) : deeds;
        return "'" + call + "' behind " + (shown.size() < deeds.size() ? ".. " : "") + shown + ":";
    }

    private int answer(String call) {
        run.add(call);
        countCalls(run.size());
        return call(x, call);
    }

    private List<Integer> done(List<String> ahead, List<String> asked) {
        TollDelay y = new TollDelay();
        for (String call : ahead) {
            call(y, call);
        }
        List<Integer> answers = new ArrayList<>();
        for (String call : asked) {
            answers.add(call(y, call));
        }
        countCalls(ahead.size() + asked.size());
        return answers;
    }

    private void countCalls(int calls) {
        if (!beyond && calls > PROMISED_CALLS) {
            throw new IllegalStateException("the test itself makes " + calls + " calls");
        }
    }

    /** All that can be asked of an object, in parts, since no one object can be asked so much. */
    private List<List<String>> looks(boolean withFault) {
        List<List<String>> looks = new ArrayList<>();
        looks.add(withFault ? look("told 4", "fault") : look("told 4"));
        looks.add(evening());
        looks.add(bridgeItself());
        looks.add(tried());
        looks.add(look("seed 0", "seed 1"));
        looks.add(look("stayed 0 0", "couldBe", "write 0 0", "judge", "tear"));
        looks.add(evening("undo 1"));
        looks.add(evening("undo 2"));
        looks.add(evening("undo " + Math.max(1, done(run, List.of("told 20")).get(0))));
        looks.add(evening("goBack 0", "seed 0"));
        looks.add(evening("goBack 1", "seed 0"));
        looks.add(look("feed 107", "bridge", "fault"));
        looks.add(look("bridge", "fault", "told 0", "told 1", "told 2", "told 3", "told 5", "told 8"));
        return looks;
    }

    private static List<String> look(String... calls) {
        return Arrays.asList(calls);
    }

    private static List<String> evening(String... ahead) {
        List<String> look = new ArrayList<>(Arrays.asList(ahead));
        for (int what = 5; what <= 20; what++) {
            look.add("told " + what);
        }
        for (int t = 0; t < 6; t++) {
            look.add("traveller " + t + " 3");
            look.add("traveller " + t + " 4");
            look.add("traveller " + t + " 5");
        }
        return look;
    }

    private static List<String> bridgeItself() {
        List<String> look = new ArrayList<>();
        for (int what = 0; what <= 3; what++) {
            look.add("told " + what);
            for (int m = 0; m < 8; m++) {
                look.add("matter " + m + " " + what);
            }
        }
        for (int t = 0; t < 6; t++) {
            look.addAll(look("traveller " + t + " 0", "traveller " + t + " 1", "traveller " + t + " 2", "traveller " + t + " 6"));
        }
        return look;
    }

    private static List<String> tried() {
        List<String> look = new ArrayList<>(look("queue 0", "queue 1", "couldBe", "ask", "judge"));
        for (int t = 0; t < 6; t++) {
            for (int what = 0; what <= 3; what++) {
                look.add("talk " + t + " " + what);
            }
            look.add("stay " + t + " 0");
            look.add("stay " + t + " 1");
        }
        return look;
    }

    /** One call, told in words. */
    static int call(TollDelay x, String words) {
        String[] w = words.split(" ");
        int a = w.length > 1 ? Integer.parseInt(w[1]) : 0;
        int b = w.length > 2 ? Integer.parseInt(w[2]) : 0;
        switch (w[0]) {
            case "feed": return x.feed(a);
            case "bridge": return x.bridge();
            case "fault": return x.fault();
            case "told": return x.told(a);
            case "matter": return x.matter(a, b);
            case "traveller": return x.traveller(a, b);
            case "seat": return x.seat(a);
            case "tell": return x.tell(a);
            case "rise": return x.rise();
            case "learn": return x.learn(a);
            case "minute": return x.minute(a);
            case "anew": return x.anew();
            case "drift": return x.drift(a);
            case "undo": return x.undo(a);
            default: return callMore(x, w[0], a, b);
        }
    }

    private static int callMore(TollDelay x, String name, int a, int b) {
        switch (name) {
            case "stay": return x.stay(a, b);
            case "talk": return x.talk(a, b);
            case "queue": return x.queue(a);
            case "dry": return x.dry(a, b);
            case "stayed": return x.stayed(a, b);
            case "couldBe": return x.couldBe();
            case "ask": return x.ask();
            case "write": return x.write(a, b);
            case "judge": return x.judge();
            case "tear": return x.tear();
            case "seed": return x.seed(a);
            case "keep": return x.keep(a);
            case "goBack": return x.goBack(a);
            default: throw new IllegalStateException("the test itself calls " + name);
        }
    }
}
