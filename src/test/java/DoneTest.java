import java.util.ArrayList;
import java.util.List;
import java.util.Random;
import java.util.TreeMap;

/**
 * Section 3 held against section 2: what is tried must come out so when it is done. Nothing is looked up in a model here: the
 * rows, orders and matters are really told, seated and learnt, on objects of the same run, and the deeds' answers are counted.
 */
public final class DoneTest {
    private static final int STORIES = 1500;
    private static final int NONE = Check.NONE, NOT = Check.NOT;

    private final Random random;
    private final String text;
    private final List<String> deeds = new ArrayList<>();
    private final int matters;
    private final int travellers;
    /** The state from which all is tried: nothing but questions is asked of it, and each but once: 512 calls are promised. */
    private final TollDelay now;
    private final int known;
    private final int waits;
    private final int[][] stays;
    private final List<List<Integer>> talks = new ArrayList<>();

    private DoneTest(long start) {
        random = new Random(start);
        matters = 1 + random.nextInt(4);
        travellers = 1 + random.nextInt(4);
        text = someText();
        someDeeds();
        now = asNow();
        known = now.told(8);
        waits = now.told(12);
        stays = new int[travellers][matters];
    }

    public static void main(String[] args) {
        for (int i = 0; i < STORIES; i++) {
            DoneTest story = new DoneTest(i);
            story.stays();
            story.talks();
            story.queues();
            story.learns();
            story.patience();
            story.couldBe();
            story.whoSat();
            story.draws();
            story.undone();
        }
        Check.end("DoneTest");
    }

    private String someText() {
        int few = random.nextBoolean() ? 9 : 60;
        StringBuilder told = new StringBuilder("k" + (1 + random.nextInt(few)) + " " + (1 + random.nextInt(9)) + ";");
        for (int m = 0; m < matters; m++) {
            told.append("m" + (1 + random.nextInt(few)) + " " + (random.nextInt(256) | random.nextInt(256)) + ";");
        }
        for (int t = 0; t < travellers; t++) {
            told.append("t" + random.nextInt(5) + " " + random.nextInt(10) + " " + (random.nextInt(256) | random.nextInt(256)) + ";");
        }
        return told.toString();
    }

    private void someDeeds() {
        deeds.add("seed " + random.nextInt(Integer.MAX_VALUE));
        for (int m = 1; m < matters; m++) {
            if (random.nextInt(3) > 0) {
                deeds.add("learn " + m);
            }
        }
        deeds.add("anew");
        deeds.add("drift " + (1 + random.nextInt(12)));
        if (random.nextInt(4) > 0) {
            deeds.add("anew");
            deeds.add("minute " + (1 + random.nextInt(30)));
        }
    }

    private TollDelay asNow(String... more) {
        TollDelay x = Check.built(text);
        for (String deed : deeds) {
            Edge.call(x, deed);
        }
        for (String deed : more) {
            Edge.call(x, deed);
        }
        return x;
    }

    private void due(String call, int got, int want) {
        if (got != want) {
            System.out.println(text + " " + deeds + ":");
        }
        Check.due(call, got, want);
    }

    private static boolean in(int set, int k) {
        return (set >> k & 1) != 0;
    }

    /** STAY: what tell() answers for the first MATTER, and what SAT and THE CLOCK say of it. */
    private void stays() {
        for (int t = 0; t < travellers; t++) {
            for (int m = 0; m < matters; m++) {
                TollDelay x = asNow("learn " + m, "anew", "seat " + t);
                int before = x.told(5);
                int stay = x.tell(m);
                stays[t][m] = stay;
                due("stay(" + t + ", " + m + ")", now.stay(t, m), stay);
                due("sat of " + t + " for " + m, x.traveller(t, 3), stay);
                due("clock of " + t + " for " + m, x.told(5) - before, stay);
            }
        }
    }

    /** TALK and WORTH: every row that can be told, and what is PAID when he RISES behind it. */
    private void talks() {
        for (int t = 0; t < travellers; t++) {
            List<Integer> best = new ArrayList<>();
            int[] most = {0, 0};
            for (List<Integer> row : rows()) {
                tellRow(t, row, best, most);
            }
            due("talk(" + t + ", 0)", now.talk(t, 0), most[0]);
            due("talk(" + t + ", 1)", now.talk(t, 1), best.isEmpty() ? NONE : best.get(0));
            due("talk(" + t + ", 2)", now.talk(t, 2), best.size());
            due("talk(" + t + ", 3)", now.talk(t, 3), most[1]);
            talks.add(best);
        }
    }

    private void tellRow(int t, List<Integer> row, List<Integer> best, int[] most) {
        TollDelay x = asNow("anew", "seat " + t);
        for (int m : row) {
            if (x.tell(m) < 0) {
                return;
            }
        }
        int sat = x.traveller(t, 3);
        if (sat > most[0] || sat == most[0] && row.size() < best.size()) {
            best.clear();
            best.addAll(row);
            most[0] = sat;
            most[1] = x.rise();
        }
    }

    /** All rows of KNOWN matters, each once, those of like length the lesser first. */
    private List<List<Integer>> rows() {
        List<List<Integer>> rows = new ArrayList<>();
        rows.add(List.of());
        for (int i = 0; i < rows.size(); i++) {
            for (int m = 0; m < matters; m++) {
                if (in(known, m) && !rows.get(i).contains(m)) {
                    List<Integer> longer = new ArrayList<>(rows.get(i));
                    longer.add(m);
                    rows.add(longer);
                }
            }
        }
        return rows;
    }

    /** QUEUE: every order of those who WAIT, each held by the TALK that was found for him. */
    private void queues() {
        if (now.told(9) != NONE) {
            due("queue(0)", now.queue(0), NOT);
            return;
        }
        int[] best = {-1, 0};
        hold(waits, new ArrayList<>(), best);
        due("queue(0)", now.queue(0), best[0]);
        due("queue(1)", now.queue(1), best[1]);
    }

    private void hold(int left, List<Integer> order, int[] best) {
        if (left == 0) {
            holdAll(order, best);
        }
        for (int t = 0; t < travellers; t++) {
            if (in(left, t)) {
                order.add(t);
                hold(left & ~(1 << t), order, best);
                order.remove(order.size() - 1);
            }
        }
    }

    private void holdAll(List<Integer> order, int[] best) {
        TollDelay x = asNow();
        int before = x.told(7);
        int figures = 0;
        for (int t : order) {
            figures = figures * 10 + t + 1;
            if (x.seat(t) >= 0) {
                for (int m : talks.get(t)) {
                    x.tell(m);
                }
                x.rise();
            }
        }
        int paid = x.told(7) - before;
        if (paid > best[0] || paid == best[0] && figures < best[1]) {
            best[0] = paid;
            best[1] = figures;
        }
    }

    /** LEARN: each MATTER that is not KNOWN is learnt, and the WORTHS are asked for then. */
    private void learns() {
        int best = NONE;
        int most = -1;
        for (int m = 0; m < matters; m++) {
            TollDelay x = asNow();
            int worth = 0;
            if (x.learn(m) != NOT) {
                for (int t = 0; t < travellers; t++) {
                    worth += x.talk(t, 3);
                }
                best = worth > most ? m : best;
                most = Math.max(most, worth);
            }
        }
        due("told(17)", now.told(17), best);
    }

    /** PATIENCE: so many MINUTES one by one, and the one beyond. */
    private void patience() {
        TollDelay x = asNow();
        int[] left = new int[travellers];
        for (int minutes = 1; minutes <= 61; minutes++) {
            x.minute(1);
            int wait = x.told(12);
            for (int t = 0; t < travellers; t++) {
                left[t] = in(wait, t) ? minutes : left[t];
            }
        }
        for (int t = 0; t < travellers; t++) {
            due("traveller(" + t + ", 5)", now.traveller(t, 5), left[t]);
        }
    }

    /** COULD BE and ASK: one MATTER is really told to some, and what each STAYED is noted. */
    private void couldBe() {
        TollDelay x = asNow();
        int secret = random.nextInt(matters);
        int could = (1 << matters) - 1;
        for (int noted = 0; noted < 3; noted++) {
            due("couldBe()", x.couldBe(), could);
            due("ask()", x.ask(), partsBest(could));
            int t = random.nextInt(travellers);
            int stayed = asNow("learn " + secret, "anew", "seat " + t).tell(secret);
            x.stayed(t, stayed);
            for (int m = 0; m < matters; m++) {
                could &= stays[t][m] == stayed ? -1 : ~(1 << m);
            }
        }
        due("the secret could be", in(could, secret) ? 1 : 0, 1);
    }

    private int partsBest(int could) {
        int best = NONE;
        int least = Integer.bitCount(could);
        for (int t = 0; t < travellers; t++) {
            TreeMap<Integer, Integer> parts = new TreeMap<>();
            for (int m = 0; m < matters; m++) {
                parts.merge(stays[t][m], could >> m & 1, Integer::sum);
            }
            int greatest = 0;
            for (int part : parts.values()) {
                greatest = Math.max(greatest, part);
            }
            best = greatest < least ? t : best;
            least = Math.min(least, greatest);
        }
        return best;
    }

    /** LONGEST SAT, FAVOURITE and WRONG: by how long each SAT and STAYS. */
    private void whoSat() {
        TollDelay x = asNow();
        int longest = NONE;
        for (int t = 0; t < travellers; t++) {
            int sat = x.traveller(t, 3);
            longest = sat > (longest == NONE ? 0 : x.traveller(longest, 3)) ? t : longest;
            int favourite = NONE;
            for (int m = 0; m < matters; m++) {
                favourite = stays[t][m] > (favourite == NONE ? 0 : stays[t][favourite]) ? m : favourite;
            }
            due("traveller(" + t + ", 6)", x.traveller(t, 6), favourite);
            x.write(t, sat);
        }
        due("told(16)", x.told(16), longest);
        due("a true book", x.judge(), NONE);
        int t = random.nextInt(travellers);
        x.write(t, x.traveller(t, 3) + 1);
        due("a false entry behind it", x.judge(), travellers);
    }

    /** BY DRAWS: the same by deeds, with the draws made here. */
    private void draws() {
        int times = 1 + random.nextInt(30);
        int start = random.nextInt(Integer.MAX_VALUE);
        TollDelay drifted = asNow("seed " + start);
        drifted.drift(times);
        TollDelay done = asNow();
        long seed = start;
        for (int i = 0; i < times; i++) {
            boolean sits = done.told(9) != NONE;
            seed = next(seed);
            int drawn = (int) (seed >> 16) % (sits ? 4 : travellers);
            if (!sits) {
                done.seat(drawn);
            } else if (drawn == 0) {
                done.rise();
            } else {
                seed = next(seed);
                done.tell((int) (seed >> 16) % matters);
            }
            done.minute(1);
        }
        Check.same("drift(" + times + ") of " + text + " " + deeds, evening(drifted), evening(done));
        due("the seed behind it", drifted.seed(0), (int) seed);
    }

    private static long next(long seed) {
        return (seed * 1103515245L + 12345L) % (1L << 31);
    }

    /** UNDONE: the run as if the latest deeds had never been. */
    private void undone() {
        TollDelay x = asNow();
        TollDelay drifted = asNow();
        int n = 1 + random.nextInt(Math.min(30, x.told(20)));
        drifted.drift(30 - n);
        drifted.undo(30);
        x.undo(n);
        Check.same("undone of " + text + " " + deeds, evening(drifted), evening(x));
        TollDelay back = asNow("minute 1", "anew", "minute 60", "undo 3");
        Check.same("undone back to " + text + " " + deeds, evening(back), evening(now));
    }

    /** All of section 2 that can be asked. */
    private static String evening(TollDelay x) {
        StringBuilder all = new StringBuilder();
        for (int what = 5; what <= 14; what++) {
            all.append(x.told(what)).append(' ');
        }
        for (int t = 0; t < x.told(3); t++) {
            all.append(x.traveller(t, 3)).append(' ').append(x.traveller(t, 4)).append(' ').append(x.traveller(t, 5)).append(' ');
        }
        return all.toString();
    }
}
