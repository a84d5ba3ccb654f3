import java.util.ArrayList;
import java.util.Arrays;
import java.util.HashMap;
import java.util.List;
import java.util.Map;
import java.util.regex.Matcher;
import java.util.regex.Pattern;

/**
 * The document told once more, as slowly and plainly as can be: every answer is worked out anew from
 * the words of the document, with nothing kept but what it tells. ModelTest holds MaskBows against it.
 */
final class PlainCarnival {
    private static final String[] KIND_NAMES = {"deed", "debt", "duel", "kiss", "vow", "theft"};

    private record Bow(int hour, int one, int other, int tenths) {
    }

    private record Saying(int hour, int mask, int person, boolean is) {
    }

    private record Deed(int kind, int hour, int mask, int other, int coins) {
    }

    private record Told(int n, List<Bow> bows, List<Saying> sayings, List<Deed> deeds, boolean rule, boolean believed) {
    }

    private record Token(String text, int place) {
    }

    private static final class Fault extends RuntimeException {
        private static final long serialVersionUID = 1L;
        final int place;

        Fault(int place) {
            this.place = place;
        }
    }

    private static final class Finding extends RuntimeException {
        private static final long serialVersionUID = 1L;
        final long answer;

        Finding(long answer) {
            this.answer = answer;
        }
    }

    private interface Act {
        long answer();
    }

    /** A night: which bows were made in it (seen ones, too). */
    private final class Night {
        final boolean[] made = new boolean[bows.size()];
        long weight = 1;

        int set() {
            int set = 0;
            for (int b = 0; b < made.length; b++) {
                set += made[b] ? 1 << b : 0;
            }
            return set;
        }

        /** The wearers behind all bows of hours up to this one; the pairs that bowed come to the list. */
        int[] worn(int hour, List<String> pairs) {
            int[] wearers = new int[n];
            for (int k = 0; k < n; k++) {
                wearers[k] = k;
            }
            for (int h = 0; h <= hour; h++) {
                for (int b = 0; b < made.length; b++) {
                    Bow bow = bows.get(b);
                    if (made[b] && bow.hour == h) {
                        int p = wearers[bow.one];
                        int q = wearers[bow.other];
                        pairs.add(Math.min(p, q) + "+" + Math.max(p, q));
                        wearers[bow.one] = q;
                        wearers[bow.other] = p;
                    }
                }
            }
            return wearers;
        }

        int[] worn(int hour) {
            return worn(hour, new ArrayList<>());
        }

        List<String> pairs() {
            List<String> pairs = new ArrayList<>();
            worn(99, pairs);
            return pairs;
        }

        boolean isSo(Saying saying) {
            return (worn(saying.hour)[saying.mask] == saying.person) == saying.is;
        }

        boolean isOpen() {
            List<String> pairs = pairs();
            boolean twice = pairs.stream().distinct().count() < pairs.size();
            return weight > 0 && !(rule && twice);
        }

        boolean isHeld() {
            return isOpen() && (!believed || sayings.stream().allMatch(this::isSo));
        }

        int doer(Deed deed) {
            return worn(deed.hour)[deed.mask];
        }

        int doneTo(Deed deed) {
            return worn(deed.hour)[deed.other];
        }
    }

    private interface Claim {
        boolean isSoIn(Night night);
    }

    private int n = 4;
    private List<Bow> bows = new ArrayList<>();
    private List<Saying> sayings = new ArrayList<>();
    private List<Deed> deeds = new ArrayList<>();
    private boolean rule = false;
    private boolean believed = false;
    private Told kept = null;
    private String tape = "";
    private final long[][] sheets = new long[4][];
    private final int[] sheetBits = new int[4];
    private final Map<Long, Integer> findings = new HashMap<>();

    // ---- what all acts share

    private long act(Act act) {
        try {
            return act.answer();
        } catch (Finding finding) {
            findings.merge(finding.answer, 1, Integer::sum);
            return finding.answer;
        }
    }

    private static void unless(boolean so, long finding) {
        if (!so) {
            throw new Finding(finding);
        }
    }

    private static boolean in(long v, long from, long to) {
        return from <= v && v <= to;
    }

    private boolean isPerson(int p) {
        return in(p, 0, n - 1);
    }

    private long doubted() {
        return bows.stream().filter(b -> b.tenths < 10).count();
    }

    private List<Integer> doubtedBows() {
        List<Integer> list = new ArrayList<>();
        for (int b = 0; b < bows.size(); b++) {
            if (bows.get(b).tenths < 10) {
                list.add(b);
            }
        }
        return list;
    }

    private List<Night> everyNight() {
        List<Night> list = new ArrayList<>();
        list.add(new Night());
        for (int b = 0; b < bows.size(); b++) {
            int tenths = bows.get(b).tenths;
            List<Night> longer = new ArrayList<>();
            for (Night night : list) {
                for (int made = 0; made < 2; made++) {
                    if (made == 1 || tenths < 10) {
                        Night next = new Night();
                        System.arraycopy(night.made, 0, next.made, 0, b);
                        next.made[b] = made == 1;
                        next.weight = night.weight * (tenths == 10 ? 1 : made == 1 ? tenths : 10 - tenths);
                        longer.add(next);
                    }
                }
            }
            list = longer;
        }
        return list;
    }

    private List<Night> held() {
        List<Night> list = everyNight();
        list.removeIf(night -> !night.isHeld());
        return list;
    }

    private Night likeliestOrNone() {
        Night best = null;
        for (Night night : held()) {
            boolean better = best == null || night.weight > best.weight
                || night.weight == best.weight && night.set() < best.set();
            best = better ? night : best;
        }
        unless(best != null, Due.NONE);
        return best;
    }

    private long oddsThat(Claim claim) {
        return held().stream().filter(claim::isSoIn).mapToLong(night -> night.weight).sum();
    }

    private boolean isSure(Claim claim) {
        List<Night> held = held();
        return !held.isEmpty() && held.stream().allMatch(claim::isSoIn);
    }

    private long sureOne(java.util.function.IntFunction<Claim> claims) {
        for (int k = 0; k < n; k++) {
            if (isSure(claims.apply(k))) {
                return k;
            }
        }
        throw new Finding(Due.NONE);
    }

    // ---- the night

    long people(int v) {
        return act(() -> {
            unless(in(v, 2, 8), Due.BEYOND);
            unless(bows.isEmpty() && deeds.isEmpty() && sayings.isEmpty(), Due.STATE);
            int before = n;
            n = v;
            return before;
        });
    }

    long bow(int hour, int one, int other, int tenths) {
        return act(() -> {
            unless(in(hour, 0, 99) && isPerson(one) && isPerson(other) && one != other && in(tenths, 0, 10), Due.BEYOND);
            unless(bows.size() < 20 && (tenths == 10 || doubted() < 6), Due.FULL);
            bows.add(new Bow(hour, one, other, tenths));
            return bows.size() - 1;
        });
    }

    long bowOf(int bow, int what) {
        return act(() -> {
            unless(in(bow, 0, bows.size() - 1) && in(what, 0, 3), Due.BEYOND);
            Bow b = bows.get(bow);
            return new int[] {b.hour, b.one, b.other, b.tenths}[what];
        });
    }

    long doubt(int bow, int v) {
        return act(() -> {
            unless(in(bow, 0, bows.size() - 1) && in(v, 0, 10), Due.BEYOND);
            Bow b = bows.get(bow);
            bows.set(bow, new Bow(b.hour, b.one, b.other, v));
            if (doubted() > 6) {
                bows.set(bow, b);
                throw new Finding(Due.FULL);
            }
            return b.tenths;
        });
    }

    long let(int what, boolean is) {
        return act(() -> {
            unless(in(what, 0, 1), Due.BEYOND);
            boolean before = what == 0 ? rule : believed;
            if (what == 0) {
                rule = is;
            } else {
                believed = is;
            }
            return before == is ? 0 : 1;
        });
    }

    long says(int hour, int mask, int person, boolean is) {
        return act(() -> {
            unless(in(hour, 0, 99) && isPerson(mask) && isPerson(person), Due.BEYOND);
            unless(sayings.size() < 10, Due.FULL);
            sayings.add(new Saying(hour, mask, person, is));
            return sayings.size() - 1;
        });
    }

    long sayingOf(int saying, int what) {
        return act(() -> {
            unless(in(saying, 0, sayings.size() - 1) && in(what, 0, 3), Due.BEYOND);
            Saying s = sayings.get(saying);
            return new int[] {s.hour, s.mask, s.person, s.is ? 1 : 0}[what];
        });
    }

    // ---- nights that hold

    long nights() {
        return held().size();
    }

    long all() {
        return oddsThat(night -> true);
    }

    long likeliest() {
        return act(() -> likeliestOrNone().set());
    }

    long wore(int mask, int hour) {
        return act(() -> {
            unless(isPerson(mask) && in(hour, 0, 99), Due.BEYOND);
            return sureOne(p -> night -> night.worn(hour)[mask] == p);
        });
    }

    long may(int mask, int hour) {
        return act(() -> {
            unless(isPerson(mask) && in(hour, 0, 99), Due.BEYOND);
            return held().stream().mapToInt(night -> 1 << night.worn(hour)[mask]).reduce(0, (a, b) -> a | b);
        });
    }

    long odds(int mask, int person, int hour) {
        return act(() -> {
            unless(isPerson(mask) && isPerson(person) && in(hour, 0, 99), Due.BEYOND);
            return oddsThat(night -> night.worn(hour)[mask] == person);
        });
    }

    long behind(int person, int hour) {
        return act(() -> {
            unless(isPerson(person) && in(hour, 0, 99), Due.BEYOND);
            return sureOne(mask -> night -> night.worn(hour)[mask] == person);
        });
    }

    long met(int person) {
        return act(() -> {
            unless(isPerson(person), Due.BEYOND);
            int set = 0;
            for (int q = 0; q < n; q++) {
                String pair = Math.min(person, q) + "+" + Math.max(person, q);
                set += held().stream().anyMatch(night -> night.pairs().contains(pair)) ? 1 << q : 0;
            }
            return set;
        });
    }

    long lie() {
        return act(() -> {
            for (int k = 0; k < sayings.size(); k++) {
                List<Saying> upTo = sayings.subList(0, k + 1);
                if (everyNight().stream().noneMatch(night -> night.isOpen() && upTo.stream().allMatch(night::isSo))) {
                    return k;
                }
            }
            throw new Finding(Due.NONE);
        });
    }

    // ---- deeds

    long deed(int kind, int hour, int mask, int other, int coins) {
        return act(() -> {
            unless(in(kind, 0, 5) && in(hour, 0, 99), Due.BEYOND);
            unless(isPerson(mask) && isPerson(other) && mask != other && in(coins, 0, 999), Due.BEYOND);
            unless(deeds.size() < 12, Due.FULL);
            deeds.add(new Deed(kind, hour, mask, other, coins));
            return deeds.size() - 1;
        });
    }

    private static int pays(int kind, int coins) {
        return switch (kind) {
            case 0 -> 0;
            case 1 -> coins;
            case 2 -> -(coins / 10);
            case 3 -> pays(0, coins) + 1;
            case 4 -> pays(3, coins) + coins / 2;
            default -> 2 * pays(1, coins);
        };
    }

    private static int pays(Deed deed) {
        return pays(deed.kind, deed.coins);
    }

    long deedOf(int deed, int what) {
        return act(() -> {
            unless(in(deed, 0, deeds.size() - 1) && in(what, 0, 6), Due.BEYOND);
            Deed d = deeds.get(deed);
            return new int[] {d.kind, d.hour, d.mask, d.other, d.coins, pays(d), d.kind == 4 ? 1 : 0}[what];
        });
    }

    long turn(int deed, int kind) {
        return act(() -> {
            unless(in(deed, 0, deeds.size() - 1) && in(kind, 0, 5), Due.BEYOND);
            Deed d = deeds.get(deed);
            deeds.set(deed, new Deed(kind, d.hour, d.mask, d.other, d.coins));
            return d.kind;
        });
    }

    long as(int deed, int kind) {
        return act(() -> {
            unless(in(deed, 0, deeds.size() - 1) && in(kind, 0, 5), Due.BEYOND);
            Deed d = deeds.get(deed);
            boolean under = d.kind == kind || kind == 0 || d.kind == 4 && kind == 3 || d.kind == 5 && kind == 1;
            unless(under, Due.KIND);
            return d.coins;
        });
    }

    long who(int deed, int what) {
        return act(() -> {
            unless(in(deed, 0, deeds.size() - 1) && in(what, 0, 1), Due.BEYOND);
            Deed d = deeds.get(deed);
            return sureOne(p -> night -> (what == 0 ? night.doer(d) : night.doneTo(d)) == p);
        });
    }

    long same(int one, int other) {
        return act(() -> {
            unless(in(one, 0, deeds.size() - 1) && in(other, 0, deeds.size() - 1) && one != other, Due.BEYOND);
            return oddsThat(night -> night.doer(deeds.get(one)) == night.doer(deeds.get(other)));
        });
    }

    long owes(int person) {
        return act(() -> {
            unless(isPerson(person), Due.BEYOND);
            long sum = 0;
            for (Night night : held()) {
                for (int other = 0; other < n; other++) {
                    sum += other == person ? 0 : night.weight * owedIn(night, person, other);
                }
            }
            return sum;
        });
    }

    private long owedIn(Night night, int one, int other) {
        long sum = 0;
        for (Deed deed : deeds) {
            int doer = night.doer(deed);
            int doneTo = night.doneTo(deed);
            sum += doer == one && doneTo == other ? pays(deed) : 0;
            sum -= doer == other && doneTo == one ? pays(deed) : 0;
        }
        return sum;
    }

    long owesTo(int one, int other) {
        return act(() -> {
            unless(isPerson(one) && isPerson(other) && one != other, Due.BEYOND);
            return owedIn(likeliestOrNone(), one, other);
        });
    }

    long bound(int one, int other) {
        return act(() -> {
            unless(isPerson(one) && isPerson(other) && one != other, Due.BEYOND);
            return oddsThat(night -> deeds.stream().anyMatch(d -> d.kind == 4
                && (night.doer(d) == one && night.doneTo(d) == other
                    || night.doer(d) == other && night.doneTo(d) == one)));
        });
    }

    // ---- doubts

    long ask() {
        return act(() -> {
            unless(doubted() > 0 && !held().isEmpty(), Due.NONE);
            long best = -1;
            long least = Long.MAX_VALUE;
            for (int b : doubtedBows()) {
                long greater = Math.max(oddsThat(night -> night.made[b]), oddsThat(night -> !night.made[b]));
                if (greater < least) {
                    least = greater;
                    best = b;
                }
            }
            return best;
        });
    }

    long witnesses() {
        List<Night> held = held();
        int doubtedSet = doubtedBows().stream().mapToInt(b -> 1 << b).sum();
        int best = doubtedSet;
        for (int set = doubtedSet; set >= 0; set = set == 0 ? -1 : (set - 1) & doubtedSet) {
            int less = Integer.compare(Integer.bitCount(set), Integer.bitCount(best));
            if (settles(set, held) && (less < 0 || less == 0 && set < best)) {
                best = set;
            }
        }
        return best;
    }

    private boolean settles(int set, List<Night> held) {
        Map<Integer, String> doersBy = new HashMap<>();
        for (Night night : held) {
            String doers = deeds.stream().map(night::doer).toList().toString();
            String before = doersBy.putIfAbsent(night.set() & set, doers);
            if (before != null && !before.equals(doers)) {
                return false;
            }
        }
        return true;
    }

    long unsure() {
        int set = 0;
        for (int d = 0; d < deeds.size(); d++) {
            Deed deed = deeds.get(d);
            boolean sure = false;
            for (int p = 0; p < n; p++) {
                int person = p;
                sure |= isSure(night -> night.doer(deed) == person);
            }
            set += sure ? 0 : 1 << d;
        }
        return set;
    }

    // ---- home

    private List<Integer> bowsHome() {
        int[] wearers = likeliestOrNone().worn(99);
        List<Integer> list = new ArrayList<>();
        while (true) {
            int mask = 0;
            while (mask < n && wearers[mask] == mask) {
                mask++;
            }
            if (mask == n) {
                return list;
            }
            int other = 0;
            while (wearers[other] != mask) {
                other++;
            }
            wearers[other] = wearers[mask];
            wearers[mask] = mask;
            list.add(10 * Math.min(mask, other) + Math.max(mask, other));
        }
    }

    /** Persons less rings: each bow opens at most one ring more. */
    long home() {
        return act(() -> {
            int[] wearers = likeliestOrNone().worn(99);
            boolean[] seen = new boolean[n];
            int rings = 0;
            for (int start = 0; start < n; start++) {
                rings += seen[start] ? 0 : 1;
                for (int mask = start; !seen[mask]; mask = wearers[mask]) {
                    seen[mask] = true;
                }
            }
            return n - rings;
        });
    }

    long homeBow(int i) {
        return act(() -> {
            unless(i >= 0, Due.BEYOND);
            List<Integer> list = bowsHome();
            unless(i < list.size(), Due.NONE);
            return list.get(i);
        });
    }

    long atHome(int hour) {
        return act(() -> {
            unless(in(hour, 0, 99), Due.BEYOND);
            int[] wearers = likeliestOrNone().worn(hour);
            int set = 0;
            for (int p = 0; p < n; p++) {
                set += wearers[p] == p ? 1 << p : 0;
            }
            return set;
        });
    }

    long since(int person) {
        return act(() -> {
            unless(isPerson(person), Due.BEYOND);
            Night night = likeliestOrNone();
            int last = -1;
            for (int hour = 0; hour <= 99; hour++) {
                last = night.worn(hour)[person] == person ? last : hour;
            }
            unless(last < 99, Due.NONE);
            return last + 1;
        });
    }

    // ---- the text

    long feed(int bytes, int count) {
        return act(() -> {
            unless(in(count, 1, 4), Due.BEYOND);
            unless(tape.length() + count <= 120, Due.FULL);
            for (int i = count - 1; i >= 0; i--) {
                tape += (char) ((bytes >> (8 * i)) & 255);
            }
            return tape.length();
        });
    }

    long wipe() {
        int before = tape.length();
        tape = "";
        return before;
    }

    private Told told() {
        return new Told(n, new ArrayList<>(bows), new ArrayList<>(sayings), new ArrayList<>(deeds), rule, believed);
    }

    private void become(Told told) {
        n = told.n;
        bows = new ArrayList<>(told.bows);
        sayings = new ArrayList<>(told.sayings);
        deeds = new ArrayList<>(told.deeds);
        rule = told.rule;
        believed = told.believed;
    }

    long carnival() {
        Told before = told();
        List<Token> tokens = new ArrayList<>();
        Matcher matcher = Pattern.compile("[a-z]+|[0-9]+|[^ ]", Pattern.DOTALL).matcher(tape);
        while (matcher.find()) {
            tokens.add(new Token(matcher.group(), matcher.start()));
        }
        int end = tape.length();
        tape = "";
        try {
            return readItems(tokens, end);
        } catch (Fault fault) {
            become(before);
            return -1 - fault.place;
        }
    }

    private int readItems(List<Token> tokens, int end) {
        List<Token> rest = new ArrayList<>(tokens);
        rest.add(new Token("", end));
        int items = 0;
        do {
            readItem(rest);
            items++;
        } while (takeIf(rest, ";"));
        if (!rest.get(0).text.isEmpty()) {
            throw new Fault(rest.get(0).place);
        }
        return items;
    }

    private static boolean takeIf(List<Token> rest, String text) {
        boolean is = rest.get(0).text.equals(text);
        if (is) {
            rest.remove(0);
        }
        return is;
    }

    private static int takeNumber(List<Token> rest, int end, int not) {
        Token token = rest.get(0);
        boolean isNumber = token.text.matches("[0-9]+");
        java.math.BigInteger value = isNumber ? new java.math.BigInteger(token.text) : null;
        if (!isNumber || value.compareTo(java.math.BigInteger.valueOf(end)) >= 0 || value.intValue() == not) {
            throw new Fault(token.place);
        }
        rest.remove(0);
        return value.intValue();
    }

    private static String takeWord(List<Token> rest, String... words) {
        Token token = rest.get(0);
        if (!Arrays.asList(words).contains(token.text)) {
            throw new Fault(token.place);
        }
        rest.remove(0);
        return token.text;
    }

    private void readItem(List<Token> rest) {
        int place = rest.get(0).place;
        String word = takeWord(rest, "bow", "says", "rule", "believe", "deed", "debt", "duel", "kiss", "vow", "theft");
        if (word.equals("rule")) {
            rule = takeWord(rest, "on", "off").equals("on");
        } else if (word.equals("believe")) {
            believed = takeWord(rest, "on", "off").equals("on");
        } else if (word.equals("bow")) {
            readBow(rest, place);
        } else if (word.equals("says")) {
            faultIf(sayings.size() == 10, place);
            int hour = takeNumber(rest, 100, -1);
            int mask = takeNumber(rest, n, -1);
            boolean is = takeWord(rest, "is", "not").equals("is");
            sayings.add(new Saying(hour, mask, takeNumber(rest, n, -1), is));
        } else {
            faultIf(deeds.size() == 12, place);
            int hour = takeNumber(rest, 100, -1);
            int mask = takeNumber(rest, n, -1);
            takeWord(rest, "to");
            int other = takeNumber(rest, n, mask);
            int coins = takeIf(rest, "coins") ? takeNumber(rest, 1000, -1) : 10;
            deeds.add(new Deed(Arrays.asList(KIND_NAMES).indexOf(word), hour, mask, other, coins));
        }
    }

    private void readBow(List<Token> rest, int place) {
        faultIf(bows.size() == 20, place);
        int hour = takeNumber(rest, 100, -1);
        int one = takeNumber(rest, n, -1);
        int other = takeNumber(rest, n, one);
        int tenths = 10;
        int doubtPlace = rest.get(0).place;
        if (takeIf(rest, "doubt")) {
            faultIf(doubted() == 6, doubtPlace);
            tenths = takeNumber(rest, 10, -1);
        }
        bows.add(new Bow(hour, one, other, tenths));
    }

    private static void faultIf(boolean is, int place) {
        if (is) {
            throw new Fault(place);
        }
    }

    // ---- sheets

    long sheet(int s, int bits, int length) {
        return act(() -> {
            unless(in(s, 0, 3) && List.of(0, 8, 16, 64).contains(bits), Due.BEYOND);
            unless(length >= 0, Due.SIZE);
            unless(length <= 40, Due.BEYOND);
            sheets[s] = bits == 0 ? null : new long[length];
            sheetBits[s] = bits;
            return bits == 0 ? 0 : length;
        });
    }

    private long[] sheetOrFinding(int s) {
        unless(in(s, 0, 3), Due.BEYOND);
        unless(sheets[s] != null, Due.MISSING);
        return sheets[s];
    }

    long write(int s, int i, long v) {
        return act(() -> {
            long[] row = sheetOrFinding(s);
            unless(in(i, 0, row.length - 1), Due.BEYOND);
            long before = row[i];
            int off = 64 - sheetBits[s];
            row[i] = v << off >> off;
            return before;
        });
    }

    long copy(int s, int from, int t, int to, int count) {
        return act(() -> {
            unless(in(s, 0, 3) && in(t, 0, 3), Due.BEYOND);
            unless(sheets[s] != null && sheets[t] != null, Due.MISSING);
            unless(sheetBits[s] == sheetBits[t], Due.KIND);
            unless(from >= 0 && to >= 0 && count >= 0, Due.BEYOND);
            unless((long) from + count <= sheets[s].length && (long) to + count <= sheets[t].length, Due.BEYOND);
            long[] before = sheets[s].clone();
            for (int i = 0; i < count; i++) {
                sheets[t][to + i] = before[from + i];
            }
            return count;
        });
    }

    long lays(int s) {
        return act(() -> {
            long[] row = sheetOrFinding(s);
            int came = 0;
            for (int i = 0; i < row.length && i < bows.size(); i++) {
                Bow b = bows.get(i);
                if (in(row[i], 0, 10)) {
                    bows.set(i, new Bow(b.hour, b.one, b.other, (int) row[i]));
                    came++;
                    if (doubted() > 6) {
                        bows.set(i, b);
                        came--;
                    }
                }
            }
            return came;
        });
    }

    long ledger(int s, int hour) {
        return act(() -> {
            long[] row = sheetOrFinding(s);
            unless(in(hour, 0, 99), Due.BEYOND);
            int[] wearers = likeliestOrNone().worn(hour);
            int i = 0;
            for (; i < n && i < row.length; i++) {
                row[i] = wearers[i];
            }
            return i;
        });
    }

    long read(int s, int hour) {
        return act(() -> {
            long[] row = sheetOrFinding(s);
            unless(in(hour, 0, 99), Due.BEYOND);
            return oddsThat(night -> {
                int[] wearers = night.worn(hour);
                for (int i = 0; i < n && i < row.length; i++) {
                    if (wearers[i] != row[i]) {
                        return false;
                    }
                }
                return true;
            });
        });
    }

    // ---- images

    long image() {
        kept = told();
        return 1;
    }

    long undo() {
        return act(() -> {
            unless(kept != null, Due.NONE);
            become(kept);
            return bows.size();
        });
    }

    long tear() {
        int before = kept == null ? 0 : 1;
        kept = null;
        return before;
    }

    long count(int what) {
        return act(() -> {
            unless(in(what, 0, 5), Due.BEYOND);
            return new int[] {n, bows.size(), (int) doubted(), deeds.size(), sayings.size(), tape.length()}[what];
        });
    }

    long status(int which) {
        return act(() -> {
            unless(in(which, -1, 6), Due.BEYOND);
            if (which == -1) {
                return findings.values().stream().mapToInt(v -> v).sum();
            }
            return findings.getOrDefault(Due.BEYOND - which, 0);
        });
    }
}
