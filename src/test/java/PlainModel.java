import java.math.BigInteger;
import java.util.ArrayList;
import java.util.Comparator;
import java.util.HashSet;
import java.util.List;
import java.util.Set;
import java.util.TreeMap;
import java.util.regex.Matcher;
import java.util.regex.Pattern;

/**
 * The document once more, told as directly as it goes and without a thought for speed, for
 * ModelTest to compare with. It shares nothing with RichestPays.
 */
final class PlainModel {
    final StringBuilder[] texts = {new StringBuilder(), new StringBuilder()};
    final int[] home = new int[6];
    final int[] worth = {20, 20, 20, 20, 20, 20};
    int law = 0;
    int ties = 0;
    final List<int[]> seen = new ArrayList<>();
    final int[][] items = new int[4][];
    final int[] forms = new int[4];
    int finding = 0;

    /** What a ROUND cost each, in the order of PEOPLE. */
    record Cost(int[] owed, int[] paid) {
    }

    // ---- texts

    private Pattern pattern(int text) {
        if (text == 0) {
            return Pattern.compile("([0-9]{4}(;[0-9]{4}){0,5})?");
        }
        int n = people().size();
        if (n == 0) {
            return Pattern.compile("");
        }
        String one = "[-0-5]{" + n + "}";
        return Pattern.compile("(" + one + "(;" + one + "){0,7})?");
    }

    int fault(int text) {
        String all = texts[text].toString();
        Pattern pattern = pattern(text);
        if (pattern.matcher(all).matches()) {
            return -1;
        }
        // a ; behind the last that may be is where one too many begins: not ended
        for (int i = 1; i <= all.length(); i++) {
            Matcher m = pattern.matcher(all.substring(0, i));
            if (!m.matches() && !m.hitEnd()) {
                boolean isOneMore = all.charAt(i - 1) == ';' && i > 1
                        && pattern.matcher(all.substring(0, i - 1)).matches();
                return isOneMore && people(text) ? i : i - 1;
            }
        }
        return all.length();
    }

    private boolean people(int text) {
        return text == 0 || !people().isEmpty();
    }

    List<String> parts(int text) {
        List<String> parts = new ArrayList<>();
        if (fault(text) == -1 && texts[text].length() > 0) {
            parts.addAll(List.of(texts[text].toString().split(";")));
        }
        return parts;
    }

    List<String> people() {
        return parts(0);
    }

    List<String> rounds() {
        return parts(1);
    }

    int purse(int p) {
        return Integer.parseInt(people().get(p).substring(0, 2));
    }

    int appetite(int p) {
        return Integer.parseInt(people().get(p).substring(2));
    }

    // ---- evenings

    int[] handsAtFirst() {
        int[] hands = new int[people().size()];
        for (int p = 0; p < hands.length; p++) {
            hands[p] = purse(p) > home[p] ? purse(p) - home[p] : 0;
        }
        return hands;
    }

    /** The PEOPLE at it, who has most ahead. */
    private List<Integer> ranked(List<Integer> who, int[] amounts) {
        List<Integer> ranked = new ArrayList<>(who);
        Comparator<Integer> byNumber = Comparator.naturalOrder();
        Comparator<Integer> most = Comparator.comparing(p -> -amounts[p]);
        ranked.sort(most.thenComparing(ties == 0 ? byNumber : byNumber.reversed()));
        return ranked;
    }

    Cost cost(String round, int[] hands) {
        TreeMap<Character, List<Integer>> tables = new TreeMap<>();
        for (int p = 0; p < round.length(); p++) {
            if (round.charAt(p) != '-') {
                tables.computeIfAbsent(round.charAt(p), t -> new ArrayList<>()).add(p);
            }
        }
        Cost cost = new Cost(new int[hands.length], new int[hands.length]);
        for (List<Integer> who : tables.values()) {
            int total = who.stream().mapToInt(this::appetite).sum();
            List<Integer> ranked = ranked(who, hands);
            if (law == 2) {
                who.forEach(p -> cost.owed[p] = appetite(p));
            } else if (law == 0 || who.size() == 1) {
                cost.owed[ranked.get(0)] = total;
            } else {
                cost.owed[ranked.get(0)] = total / 2;
                cost.owed[ranked.get(1)] = total - total / 2;
            }
        }
        for (int p = 0; p < hands.length; p++) {
            cost.paid[p] = Math.min(hands[p], cost.owed[p]);
        }
        return cost;
    }

    /** HAND, PAID, EATEN, SHORT of each behind k ROUNDS. */
    int[][] behind(int k, int[] first, List<int[]> paidByRound) {
        int[][] sums = {first.clone(), new int[6], new int[6], new int[6]};
        for (int r = 0; r < k; r++) {
            String round = rounds().get(r);
            Cost cost = cost(round, sums[0]);
            paidByRound.add(cost.paid);
            for (int p = 0; p < first.length; p++) {
                sums[0][p] -= cost.paid[p];
                sums[1][p] += cost.paid[p];
                sums[2][p] += round.charAt(p) == '-' ? 0 : appetite(p);
                sums[3][p] += cost.owed[p] - cost.paid[p];
            }
        }
        return sums;
    }

    int state(int p, int k, int what) {
        return behind(k, handsAtFirst(), new ArrayList<>())[what][p];
    }

    int all(int k, int what) {
        int sum = 0;
        for (int p = 0; p < people().size(); p++) {
            sum += state(p, k, what);
        }
        return sum;
    }

    int payer(int round, int table) {
        List<int[]> paid = new ArrayList<>();
        behind(round + 1, handsAtFirst(), paid);
        List<Integer> who = new ArrayList<>();
        for (int p = 0; p < people().size(); p++) {
            if (rounds().get(round).charAt(p) == '0' + table) {
                who.add(p);
            }
        }
        return who.isEmpty() ? -1 : ranked(who, paid.get(round)).get(0);
    }

    int beggars() {
        int k = rounds().size();
        int bits = 0;
        for (int p = 0; p < people().size(); p++) {
            bits += state(p, k, 2) != 0 && state(p, k, 1) == 0 ? (int) Math.pow(2, p) : 0;
        }
        return bits;
    }

    // ---- where to sit

    private static String with(String round, int p, char sign) {
        return round.substring(0, p) + sign + round.substring(p + 1);
    }

    private int gain(String round, int p, int[] hands) {
        return round.charAt(p) == '-' ? 0 : worth[p] - cost(round, hands).paid[p];
    }

    int best(int round, int p, int what) {
        List<int[]> choices = new ArrayList<>();
        choices.add(new int[] {0, -1, 0});
        for (int table = 0; table < 6; table++) {
            for (int left = 0; left <= purse(p); left++) {
                int[] hands = handsAtFirst();
                hands[p] = purse(p) - left;
                String seats = with(rounds().get(round), p, (char) ('0' + table));
                choices.add(new int[] {gain(seats, p, hands), table, left});
            }
        }
        Comparator<int[]> most = Comparator.comparing(c -> -c[0]);
        return choices.stream().sorted(most.thenComparing(c -> c[1]).thenComparing(c -> c[2]))
                .findFirst().get()[what];
    }

    private void rests(String row, int[] hands, List<String> found) {
        if (row.length() < hands.length) {
            for (char sign : "-012".toCharArray()) {
                rests(row + sign, hands, found);
            }
            return;
        }
        for (int p = 0; p < hands.length; p++) {
            for (char sign : "-012".toCharArray()) {
                if (gain(with(row, p, sign), p, hands) > gain(row, p, hands)) {
                    return;
                }
            }
        }
        found.add(row);
    }

    List<String> rests() {
        List<String> found = new ArrayList<>();
        rests("", handsAtFirst(), found);
        return found;
    }

    /** All rounds in which all sit somewhere, of TABLES 0 to 3, each way to part them once. */
    private void partings(String row, int n, List<String> found) {
        if (row.length() == n) {
            found.add(row);
            return;
        }
        int next = row.chars().map(c -> c - '0').max().orElse(-1) + 1;
        for (int table = 0; table <= next; table++) {
            partings(row + table, n, found);
        }
    }

    private static List<Integer> listed(int[] hands) {
        List<Integer> list = new ArrayList<>();
        for (int hand : hands) {
            list.add(hand);
        }
        return list;
    }

    /** By how many ROUNDS at least one has v; with p of -1, all as much. */
    int fewest(int p, int v) {
        if (people().size() > 4) {
            return -4;
        }
        List<String> ways = new ArrayList<>();
        partings("", people().size(), ways);
        Set<List<Integer>> states = Set.of(listed(handsAtFirst()));
        for (int k = 0; k <= 3; k++) {
            Set<List<Integer>> next = new HashSet<>();
            for (List<Integer> state : states) {
                if (p < 0 ? new HashSet<>(state).size() <= 1 : state.get(p) == v) {
                    return k;
                }
                int[] hands = state.stream().mapToInt(h -> h).toArray();
                for (String way : k < 3 ? ways : List.<String>of()) {
                    int[] paid = cost(way, hands).paid;
                    int[] left = new int[hands.length];
                    for (int i = 0; i < hands.length; i++) {
                        left[i] = hands[i] - paid[i];
                    }
                    next.add(listed(left));
                }
            }
            states = next;
        }
        return -1;
    }

    // ---- in the dark

    int dark(int round, int p, int friend) {
        String seats = rounds().get(round);
        if (seats.charAt(p) == '-' || seats.charAt(p) != seats.charAt(friend)) {
            return -3;
        }
        int[] hands = handsAtFirst();
        int pays = cost(seats, hands).paid[p];
        for (int passed = 0; passed <= hands[p]; passed++) {
            int[] other = hands.clone();
            other[p] -= passed;
            other[friend] += passed;
            if (cost(seats, other).paid[p] < pays) {
                return passed;
            }
        }
        return -1;
    }

    private int unlike(int[] first) {
        List<int[]> paid = new ArrayList<>();
        behind(rounds().size(), first, paid);
        int unlike = 0;
        for (int[] s : seen) {
            boolean isThere = s[0] < paid.size() && s[1] < first.length;
            unlike += isThere && paid.get(s[0])[s[1]] == s[2] ? 0 : 1;
        }
        return unlike;
    }

    int unlike() {
        return unlike(handsAtFirst());
    }

    int hid(int p) {
        for (int left = 0; left <= purse(p); left++) {
            int[] first = handsAtFirst();
            first[p] = purse(p) - left;
            if (unlike(first) == 0) {
                return left;
            }
        }
        return -1;
    }

    static long luck(int m, int h, int u, int what) {
        long fewer = 0;
        for (int has = 0; has <= u; has++) {
            fewer += has < h ? 1 : 0;
        }
        BigInteger above = BigInteger.valueOf(fewer).pow(m);
        BigInteger below = BigInteger.valueOf(u + 1L).pow(m);
        BigInteger shared = above.gcd(below);
        return (what == 0 ? above : below).divide(shared).longValueExact();
    }

    int meals() {
        return (int) String.join("", rounds()).chars().filter(c -> c != '-').count();
    }
}
