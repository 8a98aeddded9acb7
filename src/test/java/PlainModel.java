import java.util.ArrayList;
import java.util.List;

/**
 * A second reading of the document, written as differently from the program as it allows: lists of layers,
 * shots tried on copies in every set of classes, pits matched by trying all. Kept to find where both differ.
 */
final class PlainModel {
    static final class Layer {
        int kind;
        int mass;
        int age;

        Layer(int kind, int mass, int age) {
            this.kind = kind;
            this.mass = mass;
            this.age = age;
        }
    }

    private List<List<Layer>> classes = new ArrayList<>();
    private final Integer[] snow = new Integer[3];
    private final Integer[] warmth = new Integer[3];
    private final int[] warmthBefore = {-5, -5, -5};
    private final List<int[]> paths = new ArrayList<>();
    private final List<int[]> pit = new ArrayList<>();
    private final Integer[] watched = new Integer[12];
    private final boolean[] slidToday = new boolean[12];
    private final int[] rights = new int[4];
    private int side;
    private int force;
    private int now;
    private int fell;
    private int melted;
    private int slid;

    PlainModel() {
        for (int c = 0; c < 12; c++) {
            classes.add(new ArrayList<>());
        }
    }

    private static boolean within(int value, int least, int greatest) {
        return least <= value && value <= greatest;
    }

    int snow(int height, int amount) {
        if (now == 400 || !within(height, 0, 2) || !within(amount, -1, 200)) {
            return 0;
        }
        snow[height] = amount == -1 ? null : Integer.valueOf(amount);
        return 1;
    }

    int warmth(int height, int degrees) {
        if (now == 400 || !within(height, 0, 2) || !(degrees == -100 || within(degrees, -30, 10))) {
            return 0;
        }
        warmth[height] = degrees == -100 ? null : Integer.valueOf(degrees);
        return 1;
    }

    int wind(int fromSide, int withForce) {
        if (now == 400 || !within(fromSide, 0, 3) || !within(withForce, 0, 9)) {
            return 0;
        }
        side = fromSide;
        force = withForce;
        return 1;
    }

    int go(int n) {
        if (!within(n, 0, 30)) {
            return -1;
        }
        for (int i = 0; i < n; i++) {
            if (now < 400) {
                day();
            }
        }
        return now;
    }

    private void day() {
        for (int c = 0; c < 12; c++) {
            if (watched[c] != null) {
                boolean high = watched[c] >= 3;
                rights[high && slidToday[c] ? 0 : high ? 1 : slidToday[c] ? 2 : 3]++;
            }
            watched[c] = null;
            slidToday[c] = false;
        }
        int[] snowOf = new int[3];
        int told = 0;
        int sum = 0;
        for (Integer s : snow) {
            if (s != null) {
                told++;
                sum += s;
            }
        }
        for (int h = 0; h < 3; h++) {
            snowOf[h] = snow[h] != null ? snow[h] : told > 0 ? sum / told : 0;
            warmthBefore[h] = warmth[h] != null ? warmth[h] : warmthBefore[h];
            snow[h] = null;
            warmth[h] = null;
        }
        for (int c = 0; c < 12; c++) {
            for (Layer l : classes.get(c)) {
                l.age++;
            }
            fresh(classes.get(c), 10 * snowOf[c / 4]);
            fell += 10 * snowOf[c / 4];
        }
        if (force > 3) {
            blow();
        }
        for (int c = 0; c < 12; c++) {
            change(classes.get(c), warmthBefore[c / 4]);
        }
        force = 0;
        now++;
    }

    private static void fresh(List<Layer> layers, int mass) {
        if (mass == 0) {
            return;
        }
        if (layers.size() == 10) {
            Layer low = layers.remove(0);
            layers.get(0).mass += low.mass;
            layers.get(0).age = Math.max(low.age, layers.get(0).age);
        }
        layers.add(new Layer(0, mass, 0));
    }

    private static Layer top(List<Layer> layers) {
        return layers.isEmpty() ? null : layers.get(layers.size() - 1);
    }

    private void blow() {
        int[] opposite = {2, 3, 0, 1};
        for (int h = 0; h < 3; h++) {
            Layer from = top(classes.get(4 * h + side));
            if (from == null || from.kind != 0) {
                continue;
            }
            int mass = from.mass * (force * 4) / 100;
            from.mass -= mass;
            List<Layer> lee = classes.get(4 * h + opposite[side]);
            Layer to = top(lee);
            if (to != null && to.kind == 0) {
                to.mass += mass;
            } else {
                fresh(lee, mass);
            }
        }
    }

    private void change(List<Layer> layers, int degrees) {
        for (Layer l : layers) {
            if (l.kind == 0 && l.age >= 3) {
                l.kind = degrees > -8 ? 1 : l.mass < 300 ? 2 : 1;
            } else if (l.kind == 2 && l.age >= 20) {
                l.kind = 1;
            }
        }
        if (degrees > 0) {
            for (int unit = 0; unit < 6 * degrees && !layers.isEmpty(); unit++) {
                Layer l = top(layers);
                l.mass--;
                melted++;
                if (l.mass == 0) {
                    layers.remove(layers.size() - 1);
                }
            }
            if (!layers.isEmpty()) {
                top(layers).kind = 3;
            }
        }
    }

    private static int load(List<Layer> layers, int k) {
        int load = 0;
        for (int above = k + 1; above < layers.size(); above++) {
            load += layers.get(above).mass;
        }
        return load;
    }

    private static int index(List<Layer> layers, int k) {
        int load = load(layers, k);
        Layer l = layers.get(k);
        int[] bears = {400, 900, 250 + 15 * l.age, 3000};
        return load == 0 ? -1 : Math.min(999, 100 * bears[l.kind] / load);
    }

    private static int why(List<Layer> layers) {
        int why = -1;
        for (int k = 0; k < layers.size(); k++) {
            int index = index(layers, k);
            if (index >= 0 && (why < 0 || index <= index(layers, why))) {
                why = k;
            }
        }
        return why;
    }

    private static int likely(List<Layer> layers) {
        int why = why(layers);
        int index = why < 0 ? 1000 : index(layers, why);
        return index < 100 ? 3 : index < 150 ? 2 : index < 300 ? 1 : 0;
    }

    private static int size(List<Layer> layers) {
        int why = why(layers);
        int load = why < 0 ? 0 : load(layers, why);
        return load >= 500 ? 2 : load >= 200 ? 1 : 0;
    }

    private int danger(int c) {
        int likely = likely(classes.get(c));
        int many = 0;
        for (int s = 0; s < 4; s++) {
            many += likely(classes.get(c / 4 * 4 + s)) >= 2 ? 1 : 0;
        }
        if (likely == 0) {
            return 1;
        }
        int danger = 1 + likely + (many >= 2 ? 1 : 0);
        int size = size(classes.get(c));
        danger += size == 2 ? 1 : size == 0 ? -1 : 0;
        return danger < 1 ? 1 : danger > 5 ? 5 : danger;
    }

    int layer(int c, int k, int what) {
        if (!within(c, 0, 11) || k < 0 || k >= classes.get(c).size() || !within(what, 0, 4)) {
            return -1;
        }
        Layer l = classes.get(c).get(k);
        return new int[] {l.kind, l.mass, l.age, load(classes.get(c), k), index(classes.get(c), k)}[what];
    }

    int told(int c, int what) {
        if (!within(c, 0, 11) || !within(what, 0, 5)) {
            return -1;
        }
        List<Layer> layers = classes.get(c);
        return new int[] {layers.size(), load(layers, -1), likely(layers), size(layers), danger(c), why(layers)}[what];
    }

    private static int takeAbove(List<Layer> layers, int k) {
        int mass = load(layers, k);
        while (layers.size() > k + 1) {
            layers.remove(k + 1);
        }
        return mass;
    }

    int slide(int c, int k) {
        if (!within(c, 0, 11) || k < 0 || k >= classes.get(c).size() - 1) {
            return -1;
        }
        int mass = takeAbove(classes.get(c), k);
        slidToday[c] = true;
        slid += mass;
        return mass;
    }

    private static int fire(List<Layer> layers) {
        return likely(layers) >= 2 ? takeAbove(layers, why(layers)) : 0;
    }

    int shot(int c) {
        if (!within(c, 0, 11)) {
            return -1;
        }
        int mass = fire(classes.get(c));
        slid += mass;
        return mass;
    }

    int path(int c, int size) {
        if (!within(c, 0, 11) || !within(size, 0, 2) || paths.size() == 10) {
            return -1;
        }
        paths.add(new int[] {c, size});
        return paths.size() - 1;
    }

    int shut() {
        int bits = 0;
        for (int p = 0; p < paths.size(); p++) {
            List<Layer> layers = classes.get(paths.get(p)[0]);
            if (likely(layers) >= 2 && size(layers) >= paths.get(p)[1]) {
                bits += 1 << p;
            }
        }
        return bits;
    }

    /** Every set of the classes that have paths, shot on copies. */
    int shots() {
        int withPaths = 0;
        for (int[] p : paths) {
            withPaths |= 1 << p[0];
        }
        int fewest = -1;
        List<List<Layer>> real = classes;
        for (int set = withPaths;; set = (set - 1) & withPaths) {
            classes = new ArrayList<>(real);
            for (int c = 0; c < 12; c++) {
                if ((set >> c & 1) == 1) {
                    classes.set(c, new ArrayList<>(real.get(c)));
                    fire(classes.get(c));
                }
            }
            if (shut() == 0 && (fewest < 0 || Integer.bitCount(set) < fewest)) {
                fewest = Integer.bitCount(set);
            }
            if (set == 0) {
                break;
            }
        }
        classes = real;
        return fewest;
    }

    int pit() {
        int had = pit.size();
        pit.clear();
        return had;
    }

    int seen(int kind, int mass) {
        if (pit.size() == 6 || !within(kind, 0, 3) || !within(mass, 1, 9999)) {
            return -1;
        }
        pit.add(new int[] {kind, mass});
        return pit.size();
    }

    private int cost(List<Layer> layers, int thing, int k) {
        if (thing == pit.size()) {
            return 30 * (k + 1);
        }
        if (k < 0) {
            return 30 * (pit.size() - thing);
        }
        int difference = pit.get(thing)[1] - layers.get(k).mass;
        int pair = (difference < 0 ? -difference : difference) / 10;
        pair += pit.get(thing)[0] == layers.get(k).kind ? 0 : 40;
        int best = pair + cost(layers, thing + 1, k - 1);
        best = Math.min(best, 30 + cost(layers, thing + 1, k));
        return Math.min(best, 30 + cost(layers, thing, k - 1));
    }

    int matched(int c) {
        return within(c, 0, 11) ? cost(classes.get(c), 0, classes.get(c).size() - 1) : -1;
    }

    int nearest() {
        int best = 11;
        for (int c = 10; c >= 0; c--) {
            best = matched(c) <= matched(best) ? c : best;
        }
        return best;
    }

    int watch(int c) {
        if (!within(c, 0, 11) || now == 400) {
            return -1;
        }
        watched[c] = watched[c] == null ? Integer.valueOf(danger(c)) : watched[c];
        return danger(c);
    }

    int right(int what) {
        return within(what, 0, 3) ? rights[what] : -1;
    }

    int count(int what) {
        int mass = 0;
        int greatest = 0;
        for (int c = 0; c < 12; c++) {
            mass += load(classes.get(c), -1);
            greatest = Math.max(greatest, danger(c));
        }
        int[] counts = {now, mass, fell, melted, slid, greatest, paths.size(), pit.size()};
        return within(what, 0, 7) ? counts[what] : -1;
    }
}
