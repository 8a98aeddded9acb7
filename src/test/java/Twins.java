import java.util.function.Consumer;
import java.util.function.Supplier;

/**
 * Two objects with the same calls, but for those that one of them has in between: if these change nothing, both
 * answer alike ever after. What is told of NOW and who was WATCHED can't be asked, so DAYS end for both, too.
 */
final class Twins {
    private Twins() {
    }

    /** An object has 512 calls, so each CLASS is asked of objects of its own. */
    static void alike(Check check, String what, Supplier<WhiteSlopes> make, Consumer<WhiteSlopes> between) {
        for (int klass = 0; klass < 12; klass++) {
            WhiteSlopes plain = make.get();
            WhiteSlopes tried = make.get();
            between.accept(tried);
            String due = answers(plain, klass);
            String got = answers(tried, klass);
            check.due(what + " left class " + klass + " as it was, from " + differing(due, got), got.equals(due), true);
        }
    }

    /** All that can be asked of a CLASS and of the whole, NOW and as things go on. */
    private static String answers(WhiteSlopes x, int klass) {
        StringBuilder text = new StringBuilder();
        ask(text, x, klass);
        text.append("\nday ").append(x.go(1));
        ask(text, x, klass);
        text.append("\nthing ").append(x.seen(1, 55)).append(" path ").append(x.path(klass, 0));
        text.append(" watch ").append(x.watch(klass)).append(" snow ").append(x.snow(1, 60));
        text.append(" slide ").append(x.slide(klass, 1)).append(" day ").append(x.go(2));
        ask(text, x, klass);
        return text.append(" things ").append(x.pit()).toString();
    }

    private static void ask(StringBuilder text, WhiteSlopes x, int klass) {
        for (int what = 0; what < 6; what++) {
            text.append("\ntold ").append(what).append(' ').append(x.told(klass, what));
        }
        for (int k = 0; k < 10; k++) {
            for (int what = 0; what < 5; what++) {
                text.append("\nlayer ").append(k).append(' ').append(what).append(' ').append(x.layer(klass, k, what));
            }
        }
        for (int what = 0; what < 8; what++) {
            text.append("\ncount ").append(what).append(' ').append(x.count(what));
        }
        for (int what = 0; what < 4; what++) {
            text.append("\nright ").append(what).append(' ').append(x.right(what));
        }
        text.append("\nmatched ").append(x.matched(klass)).append("\nnearest ").append(x.nearest());
        text.append("\nshut ").append(x.shut()).append("\nshots ").append(x.shots());
    }

    private static String differing(String due, String got) {
        String[] dueLines = due.split("\n");
        String[] gotLines = got.split("\n");
        for (int i = 0; i < Math.min(dueLines.length, gotLines.length); i++) {
            if (!dueLines[i].equals(gotLines[i])) {
                return "line " + i + ", " + dueLines[i] + ", now " + gotLines[i];
            }
        }
        return "no line";
    }
}
