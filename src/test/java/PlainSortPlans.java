import java.util.ArrayList;
import java.util.List;
import java.util.Map;
import java.util.TreeMap;
import java.util.TreeSet;
import java.util.regex.Matcher;
import java.util.regex.Pattern;

/** The document's words once more, as plainly as the Java library lets them be said: for RandomRunsTest alone. */
final class PlainSortPlans {
    private static final int UNKNOWN = -101, OUTSIDE = -102, STATE = -103;

    private record Range(int target, int from, int to, int kind) { }

    private record Place(int target, int pass, int shift) { }

    private record Fault(int shift, int pass, int target, int other, int bin) { }

    private static final class Edition {
        final List<Range> ranges = new ArrayList<>();
        final Map<String, Integer> bins = new TreeMap<>();
        final TreeSet<String> shared = new TreeSet<>();
        final Map<Integer, Integer> next = new TreeMap<>();

        int binOf(int target, int pass, int shift) {
            return bins.getOrDefault(key(target, pass, shift), 0);
        }

        static String key(int target, int pass, int shift) {
            return new Place(target, pass, shift).toString();
        }
    }

    /** Each number of a sentence: its letter, which one it is, the least and the greatest. */
    private static final Map<String, int[]> LIMITS = Map.of("T0", new int[] {1, 40}, "T1", new int[] {0, 9999},
        "T2", new int[] {0, 9999}, "T3", new int[] {0, 9}, "B0", new int[] {1, 40}, "B1", new int[] {0, 3},
        "B2", new int[] {0, 2}, "B3", new int[] {1, 60}, "O0", new int[] {1, 60}, "O1", new int[] {1, 60});
    private static final Map<Character, String> SHAPES = Map.of('T', "n,n-n,n;", 'B', "n,n,n,n+;", 'O', "n,n;");
    private static final Pattern NUMBER = Pattern.compile("[0-9]{1,4}");

    private String text = "";
    private Edition plan;
    private final List<Map<String, Integer>> editions = new ArrayList<>();
    private final TreeSet<Integer> held = new TreeSet<>();
    private final List<Fault> faults = new ArrayList<>();

    void sign(int c) {
        if (c >= 32 && c <= 126 && text.length() < 600) {
            text += (char) c;
        }
    }

    int read() {
        String all = text;
        text = "";
        Edition edition = new Edition();
        int sentences = 0;
        int at = 0;
        while (at < all.length()) {
            int end = sentence(all, at, edition);
            if (end < 0) {
                return end;
            }
            at = end;
            sentences++;
        }
        if (editions.size() == 8) {
            return -1 - all.length();
        }
        editions.add(new TreeMap<>(edition.bins));
        plan = edition;
        held.clear();
        return sentences;
    }

    /** Where the sentence ends, or the answer of read() if it has a trouble. */
    private static int sentence(String all, int start, Edition edition) {
        char letter = all.charAt(start);
        if (!SHAPES.containsKey(letter)) {
            return -1 - start;
        }
        List<Integer> numbers = new ArrayList<>();
        boolean plus = false;
        int at = start + 1;
        for (char part : SHAPES.get(letter).toCharArray()) {
            boolean found = at < all.length() && all.charAt(at) == part;
            if (part == 'n') {
                Matcher m = NUMBER.matcher(all).region(at, all.length());
                if (!m.lookingAt()) {
                    return -1 - at;
                }
                int number = Integer.parseInt(m.group());
                int[] limits = LIMITS.get("" + letter + numbers.size());
                boolean backwards = letter == 'T' && numbers.size() == 2 && number < numbers.get(1);
                if (number < limits[0] || number > limits[1] || backwards) {
                    return -1 - at;
                }
                numbers.add(number);
                at = m.end();
            } else if (part == '+') {
                plus = found;
                at += found ? 1 : 0;
            } else if (found) {
                at++;
            } else {
                return -1 - at;
            }
        }
        return take(letter, numbers, plus, edition) ? at : -1 - start;
    }

    private static boolean take(char letter, List<Integer> n, boolean plus, Edition edition) {
        if (letter == 'T') {
            edition.ranges.add(new Range(n.get(0), n.get(1), n.get(2), n.get(3)));
            return true;
        }
        if (letter == 'O') {
            return edition.next.putIfAbsent(n.get(0), n.get(1)) == null;
        }
        String key = Edition.key(n.get(0), n.get(1), n.get(2));
        if (plus) {
            edition.shared.add(key);
        }
        return edition.bins.putIfAbsent(key, n.get(3)) == null;
    }

    int target(int code, int kind) {
        if (code < 0 || code > 9999 || kind < 0 || kind > 9) {
            return OUTSIDE;
        }
        if (plan == null) {
            return STATE;
        }
        return plan.ranges.stream().filter(r -> r.kind == kind && r.from <= code && code <= r.to)
            .mapToInt(r -> r.target).min().orElse(0);
    }

    int bin(int target, int pass, int shift) {
        if (target < 1 || target > 40) {
            return UNKNOWN;
        }
        if (pass < 0 || pass > 3 || shift < 0 || shift > 2) {
            return OUTSIDE;
        }
        if (plan == null) {
            return STATE;
        }
        return held.contains(target) ? 0 : plan.binOf(target, pass, shift);
    }

    int check() {
        if (plan == null) {
            return STATE;
        }
        faults.clear();
        TreeSet<Integer> used = new TreeSet<>();
        plan.ranges.forEach(r -> used.add(r.target));
        for (int shift = 0; shift < 3; shift++) {
            for (int pass = 0; pass <= greatestPass(shift); pass++) {
                for (int t : used) {
                    if (plan.binOf(t, pass, shift) == 0) {
                        faults.add(new Fault(shift, pass, t, 0, 0));
                    }
                }
                for (int t : used) {
                    for (int other : used.tailSet(t, false)) {
                        addDouble(shift, pass, t, other);
                    }
                }
            }
        }
        return faults.size();
    }

    private int greatestPass(int shift) {
        int greatest = -1;
        for (int pass = 0; pass < 4; pass++) {
            for (int target = 1; target <= 40; target++) {
                greatest = plan.binOf(target, pass, shift) != 0 ? pass : greatest;
            }
        }
        return greatest;
    }

    private void addDouble(int shift, int pass, int target, int other) {
        int bin = plan.binOf(target, pass, shift);
        boolean bothShare = plan.shared.contains(Edition.key(target, pass, shift))
            && plan.shared.contains(Edition.key(other, pass, shift));
        if (bin != 0 && bin == plan.binOf(other, pass, shift) && !bothShare) {
            faults.add(new Fault(shift, pass, target, other, bin));
        }
    }

    int fault(int i, int what) {
        if (i < 0 || i >= Math.min(faults.size(), 100)) {
            return -1;
        }
        Fault f = faults.get(i);
        return switch (what) {
            case 0 -> f.shift;
            case 1 -> f.pass;
            case 2 -> f.target;
            case 3 -> f.other;
            case 4 -> f.bin;
            default -> -1;
        };
    }

    int hold(int target, boolean on) {
        if (target < 1 || target > 40) {
            return UNKNOWN;
        }
        if (plan == null) {
            return STATE;
        }
        return (on ? held.add(target) : held.remove(target)) ? 1 : 0;
    }

    int compare(int edition) {
        if (edition < 0 || edition >= (plan == null ? 8 : editions.size())) {
            return UNKNOWN;
        }
        if (plan == null) {
            return STATE;
        }
        TreeSet<Integer> other = new TreeSet<>();
        for (int n = 0; n < 480; n++) {
            String key = Edition.key(n / 12 + 1, n % 4, n / 4 % 3);
            if (!editions.get(edition).getOrDefault(key, 0).equals(plan.bins.getOrDefault(key, 0))) {
                other.add(n / 12 + 1);
            }
        }
        return other.size();
    }

    int swap(int a, int b) {
        if (a < 1 || a > 60 || b < 1 || b > 60) {
            return UNKNOWN;
        }
        if (plan == null) {
            return STATE;
        }
        int stood = 0;
        for (Map.Entry<String, Integer> e : plan.bins.entrySet()) {
            int bin = e.getValue();
            stood += bin == a || bin == b ? 1 : 0;
            e.setValue(bin == a ? b : bin == b ? a : bin);
        }
        return stood;
    }

    int overflow(int bin) {
        if (bin < 1 || bin > 60) {
            return UNKNOWN;
        }
        if (plan == null) {
            return STATE;
        }
        TreeSet<Integer> seen = new TreeSet<>();
        int at = bin;
        while (seen.add(at)) {
            if (!plan.next.containsKey(at)) {
                return at;
            }
            at = plan.next.get(at);
        }
        return -1;
    }

    int print(int i) {
        if (plan == null) {
            return 0;
        }
        StringBuilder sheet = new StringBuilder();
        for (int bin = 1; bin <= 60; bin++) {
            List<String> targets = new ArrayList<>();
            for (int target = 1; target <= 40; target++) {
                if (plan.binOf(target, 0, 0) == bin) {
                    targets.add("" + target);
                }
            }
            if (!targets.isEmpty()) {
                sheet.append(bin).append(':').append(String.join(",", targets)).append(';');
            }
        }
        return i < 0 || i >= sheet.length() ? 0 : sheet.charAt(i);
    }
}
