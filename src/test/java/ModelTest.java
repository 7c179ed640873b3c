import java.util.ArrayList;
import java.util.Arrays;
import java.util.List;

/**
 * Runs of calls that a fixed sequence of numbers chooses, each answer held against a plain model of the document that
 * tries all fillings one by one; then texts with faults, held against a plain parser.
 */
public final class ModelTest {
    private static final String[] CALLS = {
        "count", "setting", "row", "block", "piece", "kind", "kindOf", "isTight", "widestGap", "loosest", "longestLeft",
        "lengthLeft", "meanGap", "woodShare", "goodShare", "choice", "chosen", "ways", "nearest", "fewestAt", "rowFor",
        "missing", "canPut", "freshChoice", "fillable", "fallsIn", "goodIn", "lockable", "lockedAll", "writeRow",
        "writeChoice", "writeStock", "place", "lift", "put", "take", "quoin", "open", "lock", "unlock", "relock",
        "tighten", "print", "rest", "buy", "undo", "undoable", "save", "restore"};
    /** The calls that change something, and lock more often: they come in between more often. */
    private static final String[] OFTEN = {
        "place", "put", "put", "put", "take", "quoin", "open", "lock", "lock", "lock", "lock", "relock", "tighten",
        "print", "rest", "buy", "undo"};

    private static long seed = 20261119L;
    private static int wrong = 0;

    /** A number from 0 to below many. */
    private static int draw(int many) {
        seed = seed * 6364136223846793005L + 1442695040888963407L;
        return (int) ((seed >>> 33) % many);
    }

    private static int between(int least, int most) {
        return least + draw(most - least + 1);
    }

    // ---- the model

    private static final class Filling {
        int opening = -1;
        int[] counts;

        int pieces() {
            int sum = 0;
            for (int n : counts) {
                sum += n;
            }
            return sum;
        }
    }

    private static final class ModelRow {
        List<Integer> blocks = new ArrayList<>();
        List<Integer> pieces = new ArrayList<>();
        boolean hasQuoin;
        int opening;
        int takeUp;
        int slack;

        ModelRow copy() {
            ModelRow c = new ModelRow();
            c.blocks.addAll(blocks);
            c.pieces.addAll(pieces);
            c.hasQuoin = hasQuoin;
            c.opening = opening;
            c.takeUp = takeUp;
            c.slack = slack;
            return c;
        }
    }

    private static final class Model {
        int size;
        int quoin;
        int span;
        int shake;
        int dry;
        int hold;
        boolean[] metal = new boolean[0];
        int[] lengths = new int[0];
        List<ModelRow> rows = new ArrayList<>();
        int[] left = new int[0];
        int quoins;
        /** 6 impressions, 7 good ones, 8 days, 9 blocks pied, 10 rows fallen. */
        int[] counts = new int[12];
        /** Too many fillings to try them one by one. */
        boolean huge;

        Model copy() {
            Model c = new Model();
            c.huge = huge;
            c.size = size;
            c.quoin = quoin;
            c.span = span;
            c.shake = shake;
            c.dry = dry;
            c.hold = hold;
            c.metal = metal;
            c.lengths = lengths;
            for (ModelRow r : rows) {
                c.rows.add(r.copy());
            }
            c.left = left.clone();
            c.quoins = quoins;
            c.counts = counts.clone();
            return c;
        }

        int length(int row) {
            ModelRow r = rows.get(row);
            int sum = r.hasQuoin ? quoin + r.opening - r.takeUp : 0;
            for (int b : r.blocks) {
                sum += b;
            }
            for (int p : r.pieces) {
                sum += lengths[p];
            }
            return sum;
        }

        int gap(int row) {
            return size - length(row);
        }

        boolean tight(int row) {
            return gap(row) == 0 && rows.get(row).slack == 0;
        }

        int wood(int row) {
            int n = 0;
            for (int p : rows.get(row).pieces) {
                n += metal[p] ? 0 : 1;
            }
            return n;
        }

        List<Filling> fillings(int row) {
            ModelRow r = rows.get(row);
            int room = gap(row) + (r.hasQuoin ? quoin + r.opening - r.takeUp : 0);
            List<Filling> all = new ArrayList<>();
            if (r.hasQuoin || quoins > 0) {
                for (int o = 0; o <= span; o++) {
                    extend(all, new int[lengths.length], 0, room - quoin - o, o);
                }
            } else {
                extend(all, new int[lengths.length], 0, room, -1);
            }
            return all;
        }

        private void extend(List<Filling> all, int[] counts, int kind, int rest, int opening) {
            if (rest < 0) {
                return;
            }
            if (kind == counts.length) {
                if (rest == 0) {
                    Filling f = new Filling();
                    f.opening = opening;
                    f.counts = counts.clone();
                    all.add(f);
                }
                return;
            }
            for (int n = 0; n <= left[kind] && n * lengths[kind] <= rest; n++) {
                counts[kind] = n;
                extend(all, counts, kind + 1, rest - n * lengths[kind], opening);
            }
            counts[kind] = 0;
        }

        /** The kinds, the longest first, of the same length metal first. */
        List<Integer> ordered() {
            List<Integer> order = new ArrayList<>();
            for (int length = 99; length > 0; length--) {
                for (int k = 0; k < lengths.length; k++) {
                    if (lengths[k] == length && metal[k]) {
                        order.add(k);
                    }
                }
                for (int k = 0; k < lengths.length; k++) {
                    if (lengths[k] == length && !metal[k]) {
                        order.add(k);
                    }
                }
            }
            return order;
        }

        private boolean better(Filling a, Filling b) {
            if (a.pieces() != b.pieces()) {
                return a.pieces() < b.pieces();
            }
            if (a.opening != b.opening) {
                return a.opening < b.opening;
            }
            for (int k : ordered()) {
                if (a.counts[k] != b.counts[k]) {
                    return a.counts[k] > b.counts[k];
                }
            }
            return false;
        }

        Filling choice(int row) {
            Filling byTable = choiceByTable(row);
            if (huge) {
                return byTable;
            }
            Filling best = null;
            for (Filling f : fillings(row)) {
                if (best == null || better(f, best)) {
                    best = f;
                }
            }
            boolean isSame = best == null ? byTable == null
                : byTable != null && best.opening == byTable.opening && Arrays.equals(best.counts, byTable.counts);
            if (!isSame) {
                throw new IllegalStateException("the model does not agree with itself");
            }
            return best;
        }

        /** few[i][t]: the fewest pieces of the kinds from the i-th of the order on that make t; most[i][t] of the i-th. */
        private Filling choiceByTable(int row) {
            List<Integer> order = ordered();
            int[][] few = new int[order.size() + 1][size + 1];
            int[][] most = new int[order.size()][size + 1];
            Arrays.fill(few[order.size()], 1, size + 1, 9999);
            for (int i = order.size() - 1; i >= 0; i--) {
                int length = lengths[order.get(i)];
                for (int t = 0; t <= size; t++) {
                    few[i][t] = 9999;
                    for (int n = 0; n <= left[order.get(i)] && n * length <= t; n++) {
                        if (few[i + 1][t - n * length] + n <= few[i][t]) {
                            few[i][t] = few[i + 1][t - n * length] + n;
                            most[i][t] = n;
                        }
                    }
                }
            }
            int whole = -1;
            int opening = -1;
            for (int o : openings(row)) {
                int t = roomFor(row, o);
                if (t >= 0 && few[0][t] < 9999 && (whole < 0 || few[0][t] < few[0][whole])) {
                    whole = t;
                    opening = o;
                }
            }
            if (whole < 0) {
                return null;
            }
            Filling f = new Filling();
            f.opening = opening;
            f.counts = new int[lengths.length];
            for (int i = 0; i < order.size(); i++) {
                f.counts[order.get(i)] = most[i][whole];
                whole -= most[i][whole] * lengths[order.get(i)];
            }
            return f;
        }

        private List<Integer> openings(int row) {
            List<Integer> all = new ArrayList<>();
            if (!rows.get(row).hasQuoin && quoins == 0) {
                all.add(-1);
                return all;
            }
            for (int o = 0; o <= span; o++) {
                all.add(o);
            }
            return all;
        }

        private int roomFor(int row, int opening) {
            ModelRow r = rows.get(row);
            int room = gap(row) + (r.hasQuoin ? quoin + r.opening - r.takeUp : 0);
            return opening < 0 ? room : room - quoin - opening;
        }

        int ways(int row) {
            if (!huge) {
                return fillings(row).size() % 1000003;
            }
            long[] ways = new long[size + 1];
            ways[0] = 1;
            for (int k = 0; k < lengths.length; k++) {
                long[] more = new long[size + 1];
                for (int n = 0; n <= left[k] && n * lengths[k] <= size; n++) {
                    for (int t = n * lengths[k]; t <= size; t++) {
                        more[t] = (more[t] + ways[t - n * lengths[k]]) % 1000003;
                    }
                }
                ways = more;
            }
            long sum = 0;
            for (int o : openings(row)) {
                int t = roomFor(row, o);
                sum += t >= 0 ? ways[t] : 0;
            }
            return (int) (sum % 1000003);
        }

        int fewest(int row) {
            Filling f = choice(row);
            return f == null ? -1 : f.pieces();
        }

        int lock(int row) {
            Filling f = choice(row);
            if (f == null) {
                return -1;
            }
            ModelRow r = rows.get(row);
            for (int k : ordered()) {
                for (int i = 0; i < f.counts[k]; i++) {
                    r.pieces.add(k);
                    left[k]--;
                }
            }
            if (f.opening >= 0) {
                quoins -= r.hasQuoin ? 0 : 1;
                r.hasQuoin = true;
                r.opening = f.opening;
                r.takeUp = 0;
            }
            r.slack = 0;
            return f.pieces();
        }

        int unlock(int row) {
            ModelRow r = rows.get(row);
            int n = r.pieces.size();
            for (int p : r.pieces) {
                left[p]++;
            }
            r.pieces.clear();
            quoins += r.hasQuoin ? 1 : 0;
            r.hasQuoin = false;
            r.opening = 0;
            r.takeUp = 0;
            r.slack = 0;
            return n;
        }

        int look() {
            int fell = 0;
            for (int i = 0; i < rows.size(); i++) {
                ModelRow r = rows.get(i);
                if (!r.blocks.isEmpty() && r.slack + 10 * gap(i) > hold) {
                    counts[9] += r.blocks.size();
                    r.blocks.clear();
                    unlock(i);
                    fell++;
                }
            }
            counts[10] += fell;
            return fell;
        }

        boolean impress() {
            for (ModelRow r : rows) {
                r.slack += shake * r.blocks.size();
            }
            boolean good = look() == 0;
            for (int i = 0; i < rows.size(); i++) {
                if (!rows.get(i).blocks.isEmpty() && (gap(i) != 0 || rows.get(i).slack >= 10)) {
                    good = false;
                }
            }
            counts[6]++;
            counts[7] += good ? 1 : 0;
            return good;
        }

        int day() {
            for (int i = 0; i < rows.size(); i++) {
                rows.get(i).slack += dry * wood(i);
            }
            counts[8]++;
            return look();
        }
    }

    // ---- calls on the model: a number, or the name of the exception

    private static final String S = "IllegalStateException";
    private static final String I = "IndexOutOfBoundsException";
    private static final String A = "IllegalArgumentException";

    private static Model model;
    private static List<Model> history = new ArrayList<>();
    private static Model[] saves = new Model[2];
    private static String text = "";

    private static Object done(Model before, Object answer) {
        history.add(before);
        if (history.size() > 8) {
            history.remove(0);
        }
        return answer;
    }

    private static boolean noRow(int row) {
        return row < 0 || row >= model.rows.size();
    }

    private static boolean noKind(int kind) {
        return kind < 0 || kind >= model.lengths.length;
    }

    private static Object ask(String call, int a, int b) {
        Model m = model;
        int rows = m.rows.size();
        switch (call) {
            case "count": {
                int[] sums = m.counts.clone();
                sums[0] = rows;
                sums[1] = m.lengths.length;
                sums[2] = m.quoins;
                for (int i = 0; i < rows; i++) {
                    sums[3] += m.rows.get(i).blocks.size();
                    sums[4] += m.rows.get(i).pieces.size();
                    sums[5] += m.tight(i) ? 1 : 0;
                }
                for (int n : m.left) {
                    sums[11] += n;
                }
                return a < 0 || a > 11 ? A : (Object) sums[a];
            }
            case "setting":
                return a < 0 || a > 5 ? A : (Object) new int[] {m.size, m.quoin, m.span, m.shake, m.dry, m.hold}[a];
            case "row": {
                if (noRow(a)) {
                    return I;
                }
                ModelRow r = m.rows.get(a);
                int sum = 0;
                for (int n : r.blocks) {
                    sum += n;
                }
                return b < 0 || b > 8 ? A : (Object) new int[] {r.blocks.size(), r.pieces.size(), m.length(a), m.gap(a),
                    r.hasQuoin ? r.opening : -1, r.slack, m.wood(a), sum, r.hasQuoin ? r.takeUp : -1}[b];
            }
            case "block":
                return noRow(a) || b < 0 || b >= m.rows.get(a).blocks.size() ? I : (Object) m.rows.get(a).blocks.get(b);
            case "piece":
                return noRow(a) || b < 0 || b >= m.rows.get(a).pieces.size() ? I : (Object) m.rows.get(a).pieces.get(b);
            case "kind": {
                if (noKind(a)) {
                    return I;
                }
                int in = 0;
                for (ModelRow r : m.rows) {
                    for (int p : r.pieces) {
                        in += p == a ? 1 : 0;
                    }
                }
                return b < 0 || b > 3 ? A : (Object) new int[] {m.metal[a] ? 1 : 0, m.lengths[a], m.left[a], in}[b];
            }
            case "kindOf":
                for (int k = 0; k < m.lengths.length; k++) {
                    if (m.lengths[k] == b && m.metal[k] == (a == 1)) {
                        return k;
                    }
                }
                return -1;
            case "isTight":
                return noRow(a) ? I : (Object) (m.tight(a) ? 1 : 0);
            default:
                return look(call, a, b);
        }
    }

    private static Object look(String call, int a, int b) {
        Model m = model;
        int rows = m.rows.size();
        int best = -1;
        switch (call) {
            case "widestGap":
                for (int i = rows - 1; i >= 0; i--) {
                    best = best < 0 || m.gap(i) >= m.gap(best) ? i : best;
                }
                return best;
            case "loosest":
                for (int i = rows - 1; i >= 0; i--) {
                    if (!m.rows.get(i).blocks.isEmpty() && (best < 0 || m.rows.get(i).slack + 10 * m.gap(i)
                        >= m.rows.get(best).slack + 10 * m.gap(best))) {
                        best = i;
                    }
                }
                return best;
            case "longestLeft":
                for (int k : m.ordered()) {
                    if (best < 0 && m.left[k] > 0) {
                        best = k;
                    }
                }
                return best;
            case "lengthLeft": {
                int sum = 0;
                for (int k = 0; k < m.left.length; k++) {
                    sum += m.left[k] * m.lengths[k];
                }
                return sum;
            }
            case "meanGap": {
                int sum = 0;
                for (int i = 0; i < rows; i++) {
                    sum += m.gap(i);
                }
                return (double) sum / (double) rows;
            }
            case "woodShare": {
                int wood = 0;
                int all = 0;
                for (int i = 0; i < rows; i++) {
                    wood += m.wood(i);
                    all += m.rows.get(i).pieces.size();
                }
                return all == 0 ? 0.0f : (float) wood / (float) all;
            }
            case "goodShare":
                return m.counts[6] == 0 ? 0.0f : (float) m.counts[7] / (float) m.counts[6];
            default:
                return fill(call, a, b);
        }
    }

    private static Object fill(String call, int a, int b) {
        Model m = model;
        switch (call) {
            case "choice": {
                if (noRow(a)) {
                    return I;
                }
                if (b < 0 || b > 3) {
                    return A;
                }
                Filling f = m.choice(a);
                if (f == null) {
                    return -1;
                }
                int sum = 0;
                int wood = 0;
                for (int k = 0; k < f.counts.length; k++) {
                    sum += f.counts[k] * m.lengths[k];
                    wood += m.metal[k] ? 0 : f.counts[k];
                }
                return new int[] {f.pieces(), f.opening, sum, wood}[b];
            }
            case "chosen": {
                if (noRow(a) || noKind(b)) {
                    return I;
                }
                Filling f = m.choice(a);
                return f == null ? -1 : f.counts[b];
            }
            case "ways":
                return noRow(a) ? I : (Object) m.ways(a);
            case "nearest":
                return noRow(a) ? I : (Object) nearest(a);
            case "fewestAt":
                return noRow(a) ? I : b < 1 || b > 200 ? A : (Object) fewestAt(a, b);
            case "rowFor": {
                if (a < 1 || a > 200) {
                    return A;
                }
                int best = -1;
                for (int i = 0; i < m.rows.size(); i++) {
                    int n = fewestAt(i, a);
                    if (n >= 0 && (best < 0 || n < fewestAt(best, a))) {
                        best = i;
                    }
                }
                return best;
            }
            case "missing": {
                if (noRow(a)) {
                    return I;
                }
                if (m.fewest(a) >= 0) {
                    return -1;
                }
                for (int k : m.ordered()) {
                    Model c = m.copy();
                    c.left[k]++;
                    if (c.fewest(a) >= 0) {
                        return k;
                    }
                }
                return -1;
            }
            case "canPut":
                return noRow(a) || noKind(b) ? I : (Object) (m.left[b] > 0 && m.lengths[b] <= m.gap(a) ? 1 : 0);
            case "freshChoice": {
                if (noRow(a)) {
                    return I;
                }
                Model c = m.copy();
                c.unlock(a);
                return c.fewest(a);
            }
            case "fillable": {
                if (a < 0 || a > m.size) {
                    return A;
                }
                boolean[] made = sums(m);
                int n = 0;
                for (int t = 0; t <= a; t++) {
                    n += made[t] ? 1 : 0;
                }
                return n;
            }
            default:
                return ahead(call, a, b);
        }
    }

    private static boolean[] sums(Model m) {
        boolean[] made = new boolean[m.size + 1];
        made[0] = true;
        for (int k = 0; k < m.left.length; k++) {
            for (int n = 0; n < m.left[k] && n <= m.size; n++) {
                for (int t = m.size; t >= m.lengths[k]; t--) {
                    made[t] |= made[t - m.lengths[k]];
                }
            }
        }
        return made;
    }

    private static int nearest(int row) {
        ModelRow r = model.rows.get(row);
        int least = model.size;
        int room = model.gap(row) + (r.hasQuoin ? r.opening - r.takeUp : 0);
        boolean[] made = sums(model);
        for (int o = 0; o <= (r.hasQuoin ? model.span : 0); o++) {
            for (int t = 0; t + o <= room; t++) {
                least = made[t] ? Math.min(least, room - t - o) : least;
            }
        }
        return least;
    }

    private static int fewestAt(int row, int length) {
        Model c = model.copy();
        if (c.rows.get(row).blocks.size() == 6 || length > c.gap(row)) {
            return -1;
        }
        c.rows.get(row).blocks.add(length);
        return c.fewest(row);
    }

    private static Object ahead(String call, int a, int b) {
        Model m = model;
        switch (call) {
            case "fallsIn": {
                if (noRow(a)) {
                    return I;
                }
                Model c = m.copy();
                for (int n = 1; n <= 200 && !c.rows.get(a).blocks.isEmpty(); n++) {
                    if (b == 1) {
                        c.day();
                    } else {
                        c.impress();
                    }
                    if (c.rows.get(a).blocks.isEmpty()) {
                        return n;
                    }
                }
                return -1;
            }
            case "goodIn": {
                Model c = m.copy();
                int good = 0;
                for (int n = 0; n < a && n < 200; n++) {
                    good += c.impress() ? 1 : 0;
                }
                return a < 0 || a > 200 ? A : (Object) good;
            }
            case "lockable": {
                int set = 0;
                for (int i = 0; i < m.rows.size(); i++) {
                    set += m.fewest(i) < 0 ? 0 : 1 << i;
                }
                return set;
            }
            case "lockedAll": {
                Model c = m.copy();
                int n = 0;
                for (int i = 0; i < c.rows.size(); i++) {
                    c.lock(i);
                }
                for (int i = 0; i < c.rows.size(); i++) {
                    n += c.tight(i) ? 1 : 0;
                }
                return n;
            }
            case "writeRow":
            case "writeChoice":
            case "writeStock":
                return write(call, a);
            default:
                return change(call, a, b);
        }
    }

    private static String name(int kind) {
        return (model.metal[kind] ? "m" : "w") + model.lengths[kind];
    }

    private static Object write(String call, int a) {
        List<String> words = new ArrayList<>();
        if (call.equals("writeStock")) {
            for (int k = 0; k < model.lengths.length; k++) {
                words.add(name(k) + ":" + model.left[k]);
            }
            text = String.join(",", words);
            return text.length();
        }
        if (noRow(a)) {
            return I;
        }
        if (call.equals("writeRow")) {
            ModelRow r = model.rows.get(a);
            for (int n : r.blocks) {
                words.add("[" + n + "]");
            }
            for (int p : r.pieces) {
                words.add(name(p));
            }
            if (r.hasQuoin) {
                words.add("q" + r.opening);
            }
        } else {
            Filling f = model.choice(a);
            if (f == null) {
                words.add("-");
            } else {
                for (int k : model.ordered()) {
                    if (f.counts[k] > 0) {
                        words.add(f.counts[k] + "x" + name(k));
                    }
                }
                if (f.opening >= 0) {
                    words.add("q" + f.opening);
                }
            }
        }
        text = String.join(" ", words);
        return text.length();
    }

    private static Object change(String call, int a, int b) {
        Model before = model.copy();
        Model m = model;
        switch (call) {
            case "place":
                if (noRow(a)) {
                    return I;
                }
                if (b < 1 || b > 200 || m.rows.get(a).blocks.size() == 6 || b > m.gap(a)) {
                    return A;
                }
                m.rows.get(a).blocks.add(b);
                return done(before, m.gap(a));
            case "lift":
                if (noRow(a) || b < 0 || b >= m.rows.get(a).blocks.size()) {
                    return I;
                }
                return done(before, m.rows.get(a).blocks.remove(b));
            case "put":
                if (noRow(a) || noKind(b)) {
                    return I;
                }
                if (m.left[b] == 0 || m.lengths[b] > m.gap(a)) {
                    return A;
                }
                m.left[b]--;
                m.rows.get(a).pieces.add(b);
                return done(before, m.gap(a));
            case "take": {
                if (noRow(a) || b < 0 || b >= m.rows.get(a).pieces.size()) {
                    return I;
                }
                int kind = m.rows.get(a).pieces.remove(b);
                m.left[kind]++;
                return done(before, kind);
            }
            case "quoin": {
                if (noRow(a)) {
                    return I;
                }
                ModelRow r = m.rows.get(a);
                if (r.hasQuoin == (b == 1) || b == 1 && (m.quoins == 0 || m.quoin > m.gap(a))) {
                    return A;
                }
                r.hasQuoin = b == 1;
                r.opening = 0;
                r.takeUp = 0;
                m.quoins += b == 1 ? -1 : 1;
                return done(before, m.gap(a));
            }
            case "open": {
                if (noRow(a)) {
                    return I;
                }
                ModelRow r = m.rows.get(a);
                if (!r.hasQuoin || b < 0 || b > m.span || m.gap(a) + r.opening - r.takeUp - b < 0) {
                    return A;
                }
                r.opening = b;
                r.takeUp = 0;
                return done(before, m.gap(a));
            }
            default:
                return largeChange(before, call, a, b);
        }
    }

    private static Object largeChange(Model before, String call, int a, int b) {
        Model m = model;
        switch (call) {
            case "lock": {
                if (noRow(a)) {
                    return I;
                }
                int n = m.lock(a);
                return n < 0 ? A : done(before, n);
            }
            case "unlock":
                return noRow(a) ? I : done(before, m.unlock(a));
            case "relock": {
                if (noRow(a)) {
                    return I;
                }
                m.unlock(a);
                int n = m.lock(a);
                if (n < 0) {
                    model = before;
                    return A;
                }
                return done(before, n);
            }
            case "tighten": {
                if (noRow(a)) {
                    return I;
                }
                ModelRow r = m.rows.get(a);
                if (!r.hasQuoin) {
                    return A;
                }
                while (r.opening < m.span && r.slack > 0) {
                    r.opening++;
                    r.takeUp++;
                    r.slack = Math.max(0, r.slack - 10);
                }
                return done(before, r.slack);
            }
            case "print":
            case "rest": {
                int sum = 0;
                for (int n = 0; n < a && n < 100 && a <= 100; n++) {
                    sum += call.equals("rest") ? m.day() : m.impress() ? 1 : 0;
                }
                return a < 1 || a > 100 ? A : done(before, sum);
            }
            case "buy":
                if (noKind(a)) {
                    return I;
                }
                if (b < 1 || b > 99 || m.left[a] + b > 99) {
                    return A;
                }
                m.left[a] += b;
                return done(before, m.left[a]);
            default:
                return wayBack(call, a);
        }
    }

    private static Object wayBack(String call, int a) {
        switch (call) {
            case "undo":
                if (history.isEmpty()) {
                    return S;
                }
                model = history.remove(history.size() - 1);
                return history.size();
            case "undoable":
                return history.size();
            case "save":
                if (a < 0 || a > 1) {
                    return I;
                }
                saves[a] = model.copy();
                return model.counts[6];
            case "restore":
                if (a < 0 || a > 1) {
                    return I;
                }
                if (saves[a] == null) {
                    return S;
                }
                model = saves[a].copy();
                history.clear();
                return model.counts[6];
            default:
                throw new IllegalStateException("no such call: " + call);
        }
    }

    // ---- calls on the class

    private static Object call(ChaseLocker x, String call, int a, int b) {
        try {
            return answer(x, call, a, b);
        } catch (RuntimeException e) {
            return e.getClass().getSimpleName();
        }
    }

    private static Object answer(ChaseLocker x, String call, int a, int b) {
        switch (call) {
            case "count": return x.count(a);
            case "setting": return x.setting(a);
            case "row": return x.row(a, b);
            case "block": return x.block(a, b);
            case "piece": return x.piece(a, b);
            case "kind": return x.kind(a, b);
            case "kindOf": return x.kindOf(a == 1, b);
            case "isTight": return x.isTight(a) ? 1 : 0;
            case "widestGap": return x.widestGap();
            case "loosest": return x.loosest();
            case "longestLeft": return x.longestLeft();
            case "lengthLeft": return x.lengthLeft();
            case "meanGap": return x.meanGap();
            case "woodShare": return x.woodShare();
            case "goodShare": return x.goodShare();
            case "choice": return x.choice(a, b);
            case "chosen": return x.chosen(a, b);
            case "ways": return x.ways(a);
            case "nearest": return x.nearest(a);
            case "fewestAt": return x.fewestAt(a, b);
            case "rowFor": return x.rowFor(a);
            case "missing": return x.missing(a);
            case "canPut": return x.canPut(a, b) ? 1 : 0;
            case "freshChoice": return x.freshChoice(a);
            case "fillable": return x.fillable(a);
            case "fallsIn": return x.fallsIn(a, b == 1);
            case "goodIn": return x.goodIn(a);
            case "lockable": return x.lockable();
            case "lockedAll": return x.lockedAll();
            case "writeRow": return x.writeRow(a);
            case "writeChoice": return x.writeChoice(a);
            case "writeStock": return x.writeStock();
            case "place": return x.place(a, b);
            case "lift": return x.lift(a, b);
            case "put": return x.put(a, b);
            case "take": return x.take(a, b);
            case "quoin": return x.quoin(a, b == 1);
            case "open": return x.open(a, b);
            case "lock": return x.lock(a);
            case "unlock": return x.unlock(a);
            case "relock": return x.relock(a);
            case "tighten": return x.tighten(a);
            case "print": return x.print(a);
            case "rest": return x.rest(a);
            case "buy": return x.buy(a, b);
            case "undo": return x.undo();
            case "undoable": return x.undoable();
            case "save": return x.save(a);
            case "restore": return x.restore(a);
            default: throw new IllegalStateException("no such call: " + call);
        }
    }

    // ---- runs

    private static int load(ChaseLocker x, String s) {
        StringBuilder b = new StringBuilder(s);
        while (b.length() % 20 != 0) {
            b.append(' ');
        }
        int[] w = new int[5];
        for (int i = 0; i < b.length(); i += 20) {
            Arrays.fill(w, 0);
            for (int j = 0; j < 20; j++) {
                w[j / 4] = w[j / 4] << 8 | b.charAt(i + j);
            }
            x.append(w[0], w[1], w[2], w[3], w[4]);
        }
        return x.load(s.length());
    }

    private static final int SMALL = 0;
    private static final int LARGE = 1;
    private static final int HUGE = 2;

    /** Draws a chase for the model, and returns its text. */
    private static String drawChase(int sort) {
        Model m = new Model();
        m.huge = sort == HUGE;
        m.size = sort == SMALL ? between(10, 60) : draw(3) == 0 ? 500 : between(100, 500);
        m.quoin = sort == LARGE ? between(1, 50) : between(1, 8);
        m.span = draw(3) == 0 ? draw(21) : draw(6);
        m.quoins = draw(5);
        m.shake = draw(4) == 0 ? draw(10) : draw(3);
        m.dry = draw(4);
        m.hold = draw(3) == 0 ? between(1, 999) : between(30, 300);
        StringBuilder lines = new StringBuilder();
        drawKinds(m, sort, lines);
        int rows = between(1, sort == SMALL ? 4 : 8);
        for (int i = 0; i < rows; i++) {
            ModelRow r = new ModelRow();
            m.rows.add(r);
            lines.append(";row ").append(i);
            int room = m.size;
            for (int n = draw(4); n > 0 && room > 0; n--) {
                int b = between(1, Math.min(200, Math.max(1, room / 2)));
                r.blocks.add(b);
                lines.append(' ').append(b);
                room -= b;
            }
        }
        model = m;
        history.clear();
        Arrays.fill(saves, null);
        return "chase " + m.size + " " + rows + " " + m.quoin + " " + m.span + " " + m.quoins + ";rules " + m.shake
            + " " + m.dry + " " + m.hold + lines;
    }

    private static void drawKinds(Model m, int sort, StringBuilder lines) {
        int kinds = sort == LARGE ? draw(4) : sort == SMALL ? draw(6) : between(6, 10);
        m.metal = new boolean[kinds];
        m.lengths = new int[kinds];
        m.left = new int[kinds];
        int longest = sort == SMALL ? 12 : draw(2) == 0 ? 20 : 99;
        for (int k = 0; k < kinds; k++) {
            boolean isNew = false;
            while (!isNew) {
                m.metal[k] = draw(2) == 0;
                m.lengths[k] = sort == LARGE ? between(20, 99) : between(1, longest);
                isNew = true;
                for (int j = 0; j < k; j++) {
                    isNew &= m.metal[j] != m.metal[k] || m.lengths[j] != m.lengths[k];
                }
            }
            m.left[k] = sort == LARGE ? draw(12) : sort == SMALL ? draw(5) : draw(100);
            lines.append(m.metal[k] ? ";metal " : ";wood ").append(m.lengths[k]).append(' ').append(m.left[k]);
        }
    }

    private static int drawArgument(String call) {
        if (draw(40) == 0) {
            return draw(2) == 0 ? -1 - draw(3) : Integer.MIN_VALUE + draw(2) * Integer.MAX_VALUE * 2;
        }
        switch (call) {
            case "rowFor": case "fillable": return draw(model.size + 2);
            case "goodIn": return draw(202);
            case "print": case "rest": return draw(8) == 0 ? draw(102) : between(1, 4);
            case "save": case "restore": return draw(20) == 0 ? 2 : draw(2);
            case "count": return draw(13);
            case "setting": return draw(7);
            case "kindOf": return draw(2);
            case "kind": case "buy": return draw(model.lengths.length + (draw(10) == 0 || model.lengths.length == 0 ? 2 : 0));
            default: return draw(model.rows.size() + (draw(20) == 0 ? 1 : 0));
        }
    }

    private static int drawSecond(String call) {
        if (draw(40) == 0) {
            return draw(2) == 0 ? -1 - draw(3) : Integer.MIN_VALUE + draw(2) * Integer.MAX_VALUE * 2;
        }
        switch (call) {
            case "row": return draw(10);
            case "kind": case "choice": return draw(5);
            case "kindOf": return draw(14);
            case "fewestAt": case "place": return draw(4) == 0 ? draw(202) : between(1, Math.max(1, model.size / 3));
            case "fallsIn": case "quoin": return draw(2);
            case "open": return draw(model.span + 2);
            case "buy": return draw(3) == 0 ? draw(101) : 1;
            default: return draw(7);
        }
    }

    private static void run(int number, int sort) {
        ChaseLocker x = new ChaseLocker();
        text = "";
        StringBuilder told = new StringBuilder(drawChase(sort));
        load(x, told.toString());
        for (int n = 0; n < 400; n++) {
            if (draw(150) == 0) {
                String next = drawChase(sort);
                told.append("\nload ").append(next);
                load(x, next);
            }
            if (draw(100) == 0) {
                told.append("\na text with an error");
                try {
                    load(x, "chase 77 3 9 2 4;rules 1 2 3;metal 3 4;row 0 5;row 1 78");
                    wrong++;
                } catch (IllegalArgumentException e) {
                    wrong += x.parseError() == 5 && x.errorPosition() == 53 ? 0 : 1;
                }
            }
            String name = draw(2) == 0 ? OFTEN[draw(OFTEN.length)] : CALLS[draw(CALLS.length)];
            if (name.equals("restore") && draw(4) != 0) {
                name = "save";
            }
            int a = drawArgument(name);
            int b = drawSecond(name);
            told.append("\n").append(name).append(' ').append(a).append(' ').append(b);
            Object due = ask(name, a, b);
            Object got = call(x, name, a, b);
            if (!due.equals(got)) {
                wrong++;
                System.out.println(told + "\nrun " + number + ": answered " + got + ", due is " + due);
                return;
            }
            if (name.startsWith("write") || draw(20) == 0) {
                for (int i = -1; i <= text.length(); i++) {
                    int byteDue = i >= 0 && i < text.length() ? text.charAt(i) : -1;
                    int byteGot = -1;
                    try {
                        byteGot = x.textByte(i);
                    } catch (IndexOutOfBoundsException e) {
                        byteGot = -1;
                    }
                    if (byteGot != byteDue) {
                        wrong++;
                        System.out.println(told + "\nrun " + number + ": byte " + i + " is " + byteGot + " of " + text);
                        return;
                    }
                }
            }
        }
    }

    // ---- texts with faults

    private static final class Token {
        String word;
        int place;
        /** -1 for no number, and for what is no token. */
        int number = -1;
    }

    private static List<Token> tokens(String s) {
        List<Token> all = new ArrayList<>();
        int i = 0;
        while (i < s.length()) {
            Token t = new Token();
            t.place = i;
            char c = s.charAt(i);
            int j = i + 1;
            if (c == ' ') {
                i++;
                continue;
            }
            if (c >= 'a' && c <= 'z') {
                while (j < s.length() && s.charAt(j) >= 'a' && s.charAt(j) <= 'z') {
                    j++;
                }
                t.word = s.substring(i, j);
                t.word = t.word.length() > 6 ? "?" : t.word;
            } else if (c >= '0' && c <= '9') {
                while (j < s.length() && s.charAt(j) >= '0' && s.charAt(j) <= '9') {
                    j++;
                }
                t.word = j - i > 3 ? "?" : "#";
                t.number = j - i > 3 ? -1 : Integer.parseInt(s.substring(i, j));
            } else {
                t.word = c == ';' ? ";" : "?";
            }
            all.add(t);
            i = j;
        }
        Token end = new Token();
        end.place = s.length();
        end.word = "end";
        // an end can't be mistaken for the word "end", as no grammar asks for that
        all.add(end);
        return all;
    }

    /** Code and position, or null for a text without an error. */
    private static int[] parse(String s) {
        List<Token> all = tokens(s);
        String[] form = {"chase", "10-500", "1-8", "1-50", "0-20", "0-20", ";", "rules", "0-9", "0-9", "1-999"};
        int[] values = new int[form.length];
        int at = 0;
        for (; at < form.length; at++) {
            Token t = all.get(Math.min(at, all.size() - 1));
            int[] error = expect(t, form[at]);
            if (error != null) {
                return error;
            }
            values[at] = t.number;
        }
        List<String> kinds = new ArrayList<>();
        List<Integer> told = new ArrayList<>();
        while (true) {
            Token t = all.get(at);
            if (t.place == s.length()) {
                return null;
            }
            if (!t.word.equals(";")) {
                return new int[] {1, t.place};
            }
            t = all.get(++at);
            if (t.word.equals("wood") || t.word.equals("metal")) {
                if (kinds.size() == 10) {
                    return new int[] {4, t.place};
                }
                Token length = all.get(++at);
                int[] error = expect(length, "1-99");
                if (error == null && kinds.contains(t.word + length.number)) {
                    error = new int[] {3, length.place};
                }
                error = error == null ? expect(all.get(++at), "0-99") : error;
                if (error != null) {
                    return error;
                }
                kinds.add(t.word + length.number);
                at++;
            } else if (t.word.equals("row")) {
                Token row = all.get(++at);
                int[] error = expect(row, "0-" + (values[2] - 1));
                if (error != null) {
                    return error;
                }
                if (told.contains(row.number)) {
                    return new int[] {3, row.place};
                }
                told.add(row.number);
                int sum = 0;
                int blocks = 0;
                while (all.get(++at).number >= 0) {
                    Token length = all.get(at);
                    error = expect(length, "1-200");
                    if (error != null) {
                        return error;
                    }
                    sum += length.number;
                    blocks++;
                    if (blocks > 6 || sum > values[1]) {
                        return new int[] {blocks > 6 ? 4 : 5, length.place};
                    }
                }
            } else {
                return new int[] {1, t.place};
            }
        }
    }

    private static int[] expect(Token t, String form) {
        int dash = form.indexOf('-');
        if (dash < 0) {
            return t.word.equals(form) ? null : new int[] {1, t.place};
        }
        int least = Integer.parseInt(form.substring(0, dash));
        int most = Integer.parseInt(form.substring(dash + 1));
        if (t.number < 0) {
            return new int[] {1, t.place};
        }
        return t.number < least || t.number > most ? new int[] {2, t.place} : null;
    }

    private static final String[] BITS = {" ", ";", "0", "1", "99", "1000", "9", "wood", "metal", "row", "chase", "rules",
        "x", "A", "\u00ff", "\n", ";row 0", ";row 1 5 5", ";wood 5 5", ";metal 5 0", ";wood 7", " 200", " 50", "-"};

    private static String spoil(String s) {
        StringBuilder b = new StringBuilder(s);
        for (int n = draw(3); n >= 0; n--) {
            int i = draw(b.length() + 1);
            switch (draw(5)) {
                case 0: b.setLength(i); break;
                case 1: b.insert(i, BITS[draw(BITS.length)]); break;
                case 2: b.append(BITS[draw(BITS.length)]); break;
                case 3: b.delete(i, Math.min(b.length(), i + between(1, 4))); break;
                default: b.append(";" + (draw(2) == 0 ? "wood " : "metal ") + draw(15) + " " + draw(100));
            }
        }
        b.setLength(Math.min(b.length(), 500));
        return b.toString();
    }

    private static void spoiled(int number) {
        ChaseLocker x = new ChaseLocker();
        String s = drawChase(SMALL);
        for (int n = 0; n < 12; n++) {
            s = draw(4) == 0 ? drawChase(SMALL) : spoil(s);
            int[] due = parse(s);
            Object got = "0";
            try {
                load(x, s);
            } catch (RuntimeException e) {
                got = e.getClass().getSimpleName();
            }
            boolean isDue = due == null
                ? got.equals("0") && x.parseError() == 0 && x.errorPosition() == -1
                : got.equals(A) && x.parseError() == due[0] && x.errorPosition() == due[1];
            if (!isDue || x.buffered() != 0) {
                wrong++;
                System.out.println("spoiled " + number + ": [" + s + "] " + got + " " + x.parseError() + " at "
                    + x.errorPosition() + ", due is " + Arrays.toString(due));
                return;
            }
        }
    }

    public static void main(String[] args) {
        int runs = args.length > 0 ? Integer.parseInt(args[0]) : 600;
        seed += args.length > 1 ? Integer.parseInt(args[1]) : 0;
        for (int n = 0; n < runs && wrong < 5; n++) {
            run(n, n % 20 == 19 ? HUGE : n % 4 == 3 ? LARGE : SMALL);
            for (int i = 0; i < 10; i++) {
                spoiled(n);
            }
        }
        if (wrong != 0) {
            System.exit(1);
        }
    }
}
