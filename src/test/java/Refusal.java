import java.util.ArrayList;
import java.util.List;

/** Looks whether a call that threw changed anything that can be asked for: two engines, one with that call, answer alike. */
final class Refusal {
    private static final int MOST_DATA = 60;
    private static final int TEMPLATES = 4;
    private static final String NAMES = "abcdefghijkl";

    /** What one engine answers when it is asked for all of one sort of things. */
    private interface Portrait {
        String of(Bench b);
    }

    private final Bench.Steps before;
    private final Bench.Steps beforeAndRefused;

    private Refusal(Bench.Steps before, Bench.Ask refused) {
        this.before = before;
        this.beforeAndRefused = b -> {
            before.on(b);
            Bench.answerOf(() -> refused.of(b.engine()));
        };
    }

    /** The call throws the exception after the steps, and all is as it was but that one call more threw. */
    static void due(String what, Bench.Steps before, Bench.Ask refused, String exception) {
        Refusal pair = faultDue(what, before, refused, exception);
        pair.alike(what + ": THE LINE and errorAt", Refusal::lineOf);
    }

    /** The same for a compile that finds a FAULT, which empties THE LINE and sets errorAt. */
    static Refusal faultDue(String what, Bench.Steps before, Bench.Ask refused, String exception) {
        Bench b = Bench.after(before);
        int threw = b.engine().count(5);
        Bench.due(what, () -> refused.of(b.engine()), exception);
        Bench.due(what + ": calls that threw", () -> b.engine().count(5), threw + 1);
        Refusal pair = new Refusal(before, refused);
        pair.alike(what + ": counts", Refusal::countsOf);
        pair.alike(what + ": what was rendered", Bench::rendered);
        int data = Bench.after(before).engine().count(0);
        for (int x = 0; x < data; x++) {
            int place = x;
            pair.alike(what + ": DATA " + x, twin -> contentOf(twin, place));
            for (int k = 0; k < TEMPLATES; k++) {
                int template = k;
                pair.alike(what + ": TEMPLATE " + k + " for " + x, twin -> twin.render(template, place));
            }
        }
        return pair;
    }

    /** Each portrait has two new engines for itself, since taking it may change them. */
    private void alike(String what, Portrait portrait) {
        Bench.due(what, portrait.of(Bench.after(beforeAndRefused)), portrait.of(Bench.after(before)));
    }

    private static String countsOf(Bench b) {
        List<String> answers = new ArrayList<>();
        for (int what : new int[] {0, 2, 3, 4}) {
            answers.add(Bench.answerOf(() -> b.engine().count(what)));
        }
        int data = b.engine().count(0);
        for (int x = -1; x <= data; x++) {
            int place = x;
            answers.add(Bench.answerOf(() -> b.engine().kind(place)));
            answers.add(Bench.answerOf(() -> b.engine().size(place)));
        }
        return answers.toString();
    }

    /** THE LINE can be read just by making it a TEXT or, where no DATA can be made, a TEMPLATE. */
    private static String lineOf(Bench b) {
        String begin = b.engine().count(1) + " " + b.engine().errorAt() + " ";
        if (b.engine().count(0) < MOST_DATA) {
            int text = b.engine().text();
            return begin + b.render("{{{this}}}", text);
        }
        String answer = Bench.answerOf(() -> b.engine().compile(0));
        return begin + answer + " " + b.engine().errorAt() + " " + b.render(0, 0);
    }

    private static String contentOf(Bench b, int x) {
        StringBuilder template = new StringBuilder("{{{this}}}|{{#each this}}{{len this}};{{/each}}|");
        for (int i = 0; i < NAMES.length(); i++) {
            template.append("{{{").append(NAMES.charAt(i)).append("}}},");
        }
        Bench.answerOf(() -> b.engine().compile(0));
        return b.render(template.toString(), x);
    }
}
