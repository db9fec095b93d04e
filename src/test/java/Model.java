import java.math.BigInteger;
import java.util.ArrayList;
import java.util.Arrays;
import java.util.Collections;
import java.util.List;
import java.util.TreeSet;
import java.util.function.IntPredicate;
import java.util.regex.Matcher;
import java.util.regex.Pattern;

/** The document written a second time, slowly: by snapshots, by trying all, with the Java library. */
final class Model {
    private static final int BAD = -1, FULL = -2, FINDING = -3, STATE = -4, NONE = -9;
    private static final Pattern LANGUAGE = language();

    private final List<List<Integer>> rows = new ArrayList<>(Collections.nCopies(6, null));
    private final List<List<Integer>> texts = new ArrayList<>(Collections.nCopies(4, null));
    private List<Year> years = new ArrayList<>(List.of(new Year()));
    private final List<List<Year>> kept = new ArrayList<>(Arrays.asList(null, null, null));
    private final List<Integer> found = new ArrayList<>();
    private int asked = 0;
    private long upper = 0;
    private long lower = 1;

    /** A MINISTER; a copy is made of each for every DEED. */
    private static final class Person implements Cloneable {
        int number, place, pace, cunning;
        char letter;
        boolean out;

        boolean old() {
            return letter == 'o' || letter == 'a';
        }

        boolean deaf() {
            return letter == 'd' || letter == 'y';
        }

        int kind() {
            return "molday".indexOf(letter);
        }

        int cleverness() {
            return letter == 'l' ? cunning + 10 : cunning;
        }

        void walk(TreeSet<Integer> chairs) {
            place = (place + pace - (old() && chairs.contains(place) ? 1 : 0)) % 8;
        }

        Person copy() {
            try {
                return (Person) clone();
            } catch (CloneNotSupportedException e) {
                throw new IllegalStateException(e);
            }
        }
    }

    /** How it all stands between two DEEDS. */
    private static final class Year {
        final List<Person> people = new ArrayList<>();
        final TreeSet<Integer> chairs = new TreeSet<>();
        final TreeSet<Integer> taken = new TreeSet<>();
        int bars, stops;

        Year copy() {
            Year year = new Year();
            people.forEach(person -> year.people.add(person.copy()));
            year.chairs.addAll(chairs);
            year.bars = bars;
            year.stops = stops;
            return year;
        }

        Year bar() {
            Year year = copy();
            year.bars++;
            year.people.stream().filter(person -> !person.out).forEach(person -> person.walk(year.chairs));
            return year;
        }

        Year bars(int n) {
            return n == 0 ? this : bar().bars(n - 1);
        }

        Year stop() {
            Year year = copy();
            year.stops++;
            List<Person> line = new ArrayList<>(year.people);
            line.removeIf(person -> person.out);
            line.sort((a, b) -> a.cleverness() != b.cleverness()
                ? b.cleverness() - a.cleverness() : a.number - b.number);
            for (Person person : line) {
                if (person.deaf()) {
                    person.walk(year.chairs);
                }
                int reach = person.letter == 'y' ? 7 : person.old() ? 2 : 1;
                Integer seat = first(person.place, reach,
                    place -> year.chairs.contains(place) && !year.taken.contains(place));
                if (seat == null && person.letter == 'a') {
                    seat = first(person.place, 2, year.taken::contains);
                }
                person.out = seat == null;
                if (seat != null) {
                    person.place = seat;
                    year.taken.add(seat);
                }
            }
            return year;
        }

        Year without(int place) {
            Year year = copy();
            year.chairs.remove(place);
            return year;
        }

        Year nudge(int i) {
            Year year = copy();
            year.people.get(i).place = (year.people.get(i).place + 1) % 8;
            return year;
        }

        int in() {
            int set = 0;
            for (Person person : people) {
                set += person.out ? 0 : 1 << person.number;
            }
            return set;
        }

        boolean in(int i) {
            return !people.get(i).out;
        }
    }

    private static Integer first(int from, int reach, IntPredicate wanted) {
        for (int place = from; place <= from + reach; place++) {
            if (wanted.test(place % 8)) {
                return place % 8;
            }
        }
        return null;
    }

    private static int bits(Iterable<Integer> set) {
        int all = 0;
        for (int one : set) {
            all += 1 << one;
        }
        return all;
    }

    private Year now() {
        return years.get(years.size() - 1);
    }

    private int deeds() {
        return years.size() - 1;
    }

    private int find(int finding) {
        found.add(finding);
        return FINDING;
    }

    private int tell(int v) {
        asked = v;
        return 1;
    }

    private static boolean within(int v, int least, int most) {
        return least <= v && v <= most;
    }

    private boolean isMinister(int i) {
        return within(i, 0, now().people.size() - 1);
    }

    // ---- 1

    int row(int r, int n) {
        if (!within(r, 0, 5) || n > 40) {
            return BAD;
        }
        if (n < 0) {
            return find(5);
        }
        rows.set(r, new ArrayList<>(Collections.nCopies(n, 0)));
        return n;
    }

    int lay(int r, int i, int v) {
        int refused = refused(rows, r, i);
        return refused < 0 ? refused : tell(rows.get(r).set(i, v));
    }

    int at(int r, int i) {
        int refused = refused(rows, r, i);
        return refused < 0 ? refused : tell(rows.get(r).get(i));
    }

    private int refused(List<List<Integer>> lists, int k, int i) {
        int refused = refused(lists, k);
        return refused < 0 ? refused : within(i, 0, lists.get(k).size() - 1) ? 0 : find(2);
    }

    private int refused(List<List<Integer>> lists, int k) {
        return !within(k, 0, lists.size() - 1) ? BAD : lists.get(k) == null ? find(1) : 0;
    }

    int tear(int r) {
        int refused = refused(rows, r);
        if (refused < 0) {
            return refused;
        }
        rows.set(r, null);
        return 1;
    }

    int copy(int r, int i, int to, int j, int n) {
        if (!within(r, 0, 5) || !within(to, 0, 5)) {
            return BAD;
        }
        if (n < 0) {
            return find(5);
        }
        if (rows.get(r) == null || rows.get(to) == null) {
            return find(1);
        }
        if (i < 0 || j < 0 || (long) i + n > rows.get(r).size() || (long) j + n > rows.get(to).size()) {
            return find(2);
        }
        List<Integer> part = new ArrayList<>(rows.get(r).subList(i, i + n));
        for (int k = 0; k < n; k++) {
            rows.get(to).set(j + k, part.get(k));
        }
        return 1;
    }

    int mean(int r) {
        int refused = refused(rows, r);
        if (refused < 0) {
            return refused;
        }
        if (rows.get(r).isEmpty()) {
            return find(4);
        }
        BigInteger sum = BigInteger.ZERO;
        for (int v : rows.get(r)) {
            sum = sum.add(BigInteger.valueOf(v));
        }
        return tell(sum.divide(BigInteger.valueOf(rows.get(r).size())).intValueExact());
    }

    int text(int t, int n) {
        if (!within(t, 0, 3) || n > 60) {
            return BAD;
        }
        if (n < 0) {
            return find(5);
        }
        texts.set(t, new ArrayList<>(Collections.nCopies(n, 32)));
        return n;
    }

    int put(int t, int i, int v) {
        int refused = refused(texts, t, i);
        return refused < 0 ? refused : texts.get(t).set(i, (v % 256 + 256 + 128) % 256 - 128) + 1000;
    }

    private static Pattern language() {
        StringBuilder chairs = new StringBuilder();
        for (int set = 1; set < 255; set++) {
            chairs.append(set == 1 ? "" : "|");
            for (int place = 0; place < 8; place++) {
                chairs.append((set >> place & 1) == 1 ? "" + place : "");
            }
        }
        return Pattern.compile(" *r(" + chairs + ") *(([molday][0-7][1-3][0-9] *){1,6})");
    }

    private String signs(int t) {
        StringBuilder all = new StringBuilder();
        for (int sign : texts.get(t)) {
            all.append((char) (sign & 255));
        }
        return all.toString();
    }

    int fault(int t) {
        int refused = refused(texts, t);
        if (refused < 0) {
            return refused;
        }
        String signs = signs(t);
        for (int size = 1; size <= signs.length(); size++) {
            Matcher matcher = LANGUAGE.matcher(signs.substring(0, size));
            // What has not been ruled out at its end may still become a CABINET.
            if (!matcher.matches() && !matcher.hitEnd()) {
                return size - 1;
            }
        }
        return LANGUAGE.matcher(signs).matches() ? NONE : signs.length();
    }

    int cabinet(int t) {
        int fault = fault(t);
        if (fault != NONE) {
            return fault < 0 ? fault : STATE;
        }
        Matcher matcher = LANGUAGE.matcher(signs(t));
        if (!matcher.matches()) {
            throw new IllegalStateException();
        }
        Year year = new Year();
        matcher.group(1).chars().forEach(sign -> year.chairs.add(sign - '0'));
        String people = matcher.group(2).replace(" ", "");
        for (int i = 0; i < people.length(); i += 4) {
            Person person = new Person();
            person.number = i / 4;
            person.letter = people.charAt(i);
            person.place = people.charAt(i + 1) - '0';
            person.pace = people.charAt(i + 2) - '0';
            person.cunning = people.charAt(i + 3) - '0';
            year.people.add(person);
        }
        years = new ArrayList<>(List.of(year));
        Collections.fill(kept, null);
        return year.people.size();
    }

    private int number(int i, int what) {
        Person person = now().people.get(i);
        Person copy = person.copy();
        copy.walk(now().chairs);
        int[] all = {person.kind(), person.place, person.pace, person.cleverness(), person.out ? 0 : 1,
            (copy.place - person.place + 8) % 8};
        return all[what];
    }

    int minister(int i, int what) {
        return isMinister(i) && within(what, 0, 5) ? tell(number(i, what)) : BAD;
    }

    int mark(int i, int kind) {
        if (!isMinister(i) || !within(kind, 1, 5)) {
            return BAD;
        }
        Person person = now().people.get(i);
        boolean is = kind == 1 ? person.old() : kind == 3 ? person.deaf() : person.kind() == kind;
        if (!is) {
            return find(3);
        }
        List<Integer> near = List.of(person.place, (person.place + 1) % 8, (person.place + 2) % 8);
        List<Person> others = new ArrayList<>(now().people);
        others.removeIf(other -> other.out || other == person);
        switch (kind) {
            case 1:
                return (int) now().chairs.stream().filter(near::contains).count();
            case 2:
                return (int) others.stream().filter(o -> o.cleverness() > person.cleverness()).count();
            case 3:
                return (person.place + person.pace) % 8;
            case 4:
                return (int) others.stream().filter(o -> near.contains(o.place)).count();
            default:
                return now().chairs.size();
        }
    }

    // ---- 2

    int bar() {
        if (now().people.isEmpty()) {
            return STATE;
        }
        if (deeds() == 40) {
            return FULL;
        }
        years.add(now().bar());
        return now().bars;
    }

    int stop() {
        if (now().people.isEmpty()) {
            return STATE;
        }
        if (deeds() == 40) {
            return FULL;
        }
        years.add(now().stop());
        return Integer.bitCount(now().in());
    }

    int take(int place) {
        if (!within(place, 0, 7)) {
            return BAD;
        }
        if (!now().chairs.contains(place) || now().chairs.size() == 1) {
            return STATE;
        }
        if (deeds() == 40) {
            return FULL;
        }
        years.add(now().without(place));
        return now().chairs.size();
    }

    int nudge(int i) {
        if (!isMinister(i)) {
            return BAD;
        }
        if (!now().in(i)) {
            return STATE;
        }
        if (deeds() == 40) {
            return FULL;
        }
        years.add(now().nudge(i));
        return now().people.get(i).place;
    }

    int undo(int n) {
        if (!within(n, 0, deeds())) {
            return BAD;
        }
        int undone = deeds() - n;
        years = new ArrayList<>(years.subList(0, n + 1));
        return undone;
    }

    int keep(int k) {
        if (!within(k, 0, 2)) {
            return BAD;
        }
        if (now().people.isEmpty()) {
            return STATE;
        }
        kept.set(k, new ArrayList<>(years));
        return deeds();
    }

    int on(int k) {
        if (!within(k, 0, 2)) {
            return BAD;
        }
        if (kept.get(k) == null) {
            return find(1);
        }
        years = new ArrayList<>(kept.get(k));
        return deeds();
    }

    // ---- 3, 4

    private int refused(int i, int n, int most) {
        return !isMinister(i) || !within(n, 0, most) ? BAD : now().in(i) ? 0 : STATE;
    }

    int where(int i, int n) {
        int refused = refused(i, n, 60);
        return refused < 0 ? refused : now().bars(n).people.get(i).place;
    }

    int sits(int n) {
        if (!within(n, 0, 20)) {
            return BAD;
        }
        if (now().people.isEmpty()) {
            return STATE;
        }
        Year year = now().bars(n).stop();
        asked = bits(year.taken);
        return year.in();
    }

    int bars(int i) {
        int refused = refused(i, 0, 0);
        if (refused < 0) {
            return refused;
        }
        TreeSet<Integer> all = new TreeSet<>();
        for (int n = 0; n <= 20; n++) {
            if (now().bars(n).stop().in(i)) {
                all.add(n);
            }
        }
        return bits(all);
    }

    int when(int set) {
        if (!within(set, 0, (1 << now().people.size()) - 1)) {
            return BAD;
        }
        if (now().people.isEmpty()) {
            return STATE;
        }
        for (int n = 0; n <= 20; n++) {
            if ((now().bars(n).stop().in() & set) == set) {
                return n;
            }
        }
        return NONE;
    }

    int remove(int i, int n) {
        int refused = refused(i, n, 20);
        if (refused < 0) {
            return refused;
        }
        for (int many = 0; many <= 7; many++) {
            for (int set = 0; set < 256; set++) {
                Year year = now().copy();
                for (int place = 0; place < 8; place++) {
                    if ((set >> place & 1) == 1) {
                        year.chairs.remove(place);
                    }
                }
                boolean there = year.chairs.size() + Integer.bitCount(set) == now().chairs.size();
                if (there && Integer.bitCount(set) == many && !year.bars(n).stop().in(i)) {
                    asked = set;
                    return many;
                }
            }
        }
        throw new IllegalStateException();
    }

    int spare(int i, int n) {
        int refused = refused(i, n, 20);
        if (refused < 0) {
            return refused;
        }
        for (int place : now().chairs) {
            if (now().chairs.size() > 1 && now().without(place).bars(n).stop().in(i)) {
                return place;
            }
        }
        return NONE;
    }

    int reign(int i, int n, int r) {
        int refused = within(r, 0, 5) ? refused(i, n, 3) : BAD;
        if (refused < 0) {
            return refused;
        }
        for (int sum = 0; sum <= 15; sum++) {
            List<Integer> row = reign(now(), i, n, sum);
            if (row != null) {
                rows.set(r, row);
                return sum;
            }
        }
        return NONE;
    }

    /** The first row of n BARS that add up to a sum and keep one IN, or null. */
    private static List<Integer> reign(Year year, int i, int n, int sum) {
        if (n == 0) {
            return sum == 0 ? new ArrayList<>() : null;
        }
        for (int bars = 0; bars <= Math.min(5, sum); bars++) {
            Year next = year.bars(bars).stop();
            if (next.in(i)) {
                Year fewer = next.chairs.size() > 1 ? next.without(next.chairs.first()) : next;
                List<Integer> rest = reign(fewer, i, n - 1, sum - bars);
                if (rest != null) {
                    rest.add(0, bars);
                    return rest;
                }
            }
        }
        return null;
    }

    // ---- 5

    private int clues(int i, int r) {
        if (!isMinister(i)) {
            return BAD;
        }
        int refused = refused(rows, r);
        if (refused < 0) {
            return refused;
        }
        int size = rows.get(r).size();
        if (size > 16 || size % 2 == 1) {
            return find(5);
        }
        for (int k = 0; k < size; k++) {
            if (!within(rows.get(r).get(k), 0, k % 2 == 0 ? 20 : 7)) {
                return find(3);
            }
        }
        return 0;
    }

    private boolean fits(Person person, int r) {
        List<Integer> path = new ArrayList<>();
        for (int n = 0; n <= 20; n++) {
            path.add(person.place);
            person.walk(now().chairs);
        }
        for (int k = 0; k < rows.get(r).size(); k += 2) {
            if (!path.get(rows.get(r).get(k)).equals(rows.get(r).get(k + 1))) {
                return false;
            }
        }
        return true;
    }

    int kinds(int i, int r) {
        int refused = clues(i, r);
        if (refused < 0) {
            return refused;
        }
        int set = 0;
        for (char letter : "molday".toCharArray()) {
            Person person = now().people.get(i).copy();
            person.letter = letter;
            int kind = person.kind();
            set += fits(person, r) ? 1 << kind : 0;
        }
        return set;
    }

    int paces(int i, int r) {
        int refused = clues(i, r);
        if (refused < 0) {
            return refused;
        }
        int set = 0;
        for (int pace = 1; pace <= 3; pace++) {
            Person person = now().people.get(i).copy();
            person.pace = pace;
            set += fits(person, r) ? 1 << pace : 0;
        }
        return set;
    }

    int places(int i, int r) {
        int refused = clues(i, r);
        if (refused < 0) {
            return refused;
        }
        int set = 0;
        for (int place = 0; place < 8; place++) {
            Person person = now().people.get(i).copy();
            person.place = place;
            set += fits(person, r) ? 1 << place : 0;
        }
        return set;
    }

    int tune(int r) {
        int refused = refused(rows, r);
        if (refused < 0) {
            return refused;
        }
        List<Integer> row = rows.get(r);
        if (row.isEmpty()) {
            return find(5);
        }
        for (int rule = 1; rule <= Math.min(10, row.size()); rule++) {
            List<Integer> played = new ArrayList<>();
            while (played.size() <= row.size()) {
                played.addAll(row.subList(0, rule));
            }
            if (played.subList(0, row.size()).equals(row)) {
                asked = played.get(row.size());
                return rule;
            }
        }
        return NONE;
    }

    // ---- 6, 7

    int bribe(int i, int n) {
        int refused = refused(i, n, 3);
        return refused < 0 ? refused : wins(now(), i, 2 * n) ? 1 : 0;
    }

    private static boolean wins(Year year, int i, int turns) {
        if (turns == 0) {
            return year.stop().in(i);
        }
        boolean first = turns % 2 == 0;
        for (int bars = 0; bars <= 2; bars++) {
            if (wins(year.bars(bars), i, turns - 1) == first) {
                return first;
            }
        }
        return !first;
    }

    int odds(int i, int n, int p) {
        int refused = within(p, 0, 12) ? refused(i, n, 6) : BAD;
        return refused < 0 ? refused : tellMean(n, p, 1 << i);
    }

    int mid(int n, int p) {
        if (!within(n, 0, 6) || !within(p, 0, 12)) {
            return BAD;
        }
        return now().people.isEmpty() ? STATE : tellMean(n, p, 63);
    }

    private int tellMean(int n, int p, int set) {
        BigInteger up = BigInteger.ZERO;
        for (int k = 0; k <= n; k++) {
            BigInteger way = BigInteger.valueOf(12 - p).pow(k)
                .multiply(k == n ? BigInteger.ONE : BigInteger.valueOf(p).multiply(BigInteger.valueOf(12).pow(n - k - 1)));
            int many = Integer.bitCount(now().bars(k).stop().in() & set);
            up = up.add(way.multiply(BigInteger.valueOf(many)));
        }
        BigInteger low = BigInteger.valueOf(12).pow(n);
        BigInteger shared = up.gcd(low);
        upper = up.divide(shared).longValueExact();
        lower = low.divide(shared).longValueExact();
        return 1;
    }

    int lots(int n, int seed) {
        if (!within(n, 1, 20) || !within(seed, 1, 2147483646)) {
            return BAD;
        }
        if (now().people.isEmpty()) {
            return STATE;
        }
        if (deeds() + n > 40) {
            return FULL;
        }
        BigInteger lot = BigInteger.valueOf(seed);
        for (int k = 0; k < n; k++) {
            lot = lot.multiply(BigInteger.valueOf(48271)).mod(BigInteger.valueOf(2147483647));
            int what = lot.divide(BigInteger.valueOf(8)).mod(BigInteger.valueOf(8)).intValueExact();
            int i = lot.mod(BigInteger.valueOf(now().people.size())).intValueExact();
            if (what == 0) {
                years.add(now().stop());
            } else if (what == 1 && now().chairs.size() > 1) {
                years.add(now().without(now().chairs.first()));
            } else if (what == 2 && now().in(i)) {
                years.add(now().nudge(i));
            } else {
                years.add(now().bar());
            }
        }
        return Integer.bitCount(now().in());
    }

    // ---- 8

    int asked() {
        return asked;
    }

    long upper() {
        return upper;
    }

    long lower() {
        return lower;
    }

    int count(int what) {
        if (!within(what, 0, 10)) {
            return BAD;
        }
        long[] all = {now().people.size(), now().bars, deeds(), now().in(), bits(now().chairs), now().stops,
            now().people.stream().filter(Person::old).count(),
            now().people.stream().filter(Person::deaf).count(),
            6 - Collections.frequency(rows, null), 4 - Collections.frequency(texts, null),
            3 - Collections.frequency(kept, null)};
        return (int) all[what];
    }

    int finding() {
        return found.isEmpty() ? 0 : found.get(found.size() - 1);
    }

    int findings(int f) {
        return within(f, 1, 5) ? Collections.frequency(found, f) : BAD;
    }

    long digest() {
        List<Integer> all = new ArrayList<>();
        for (int what = 0; what <= 10; what++) {
            all.add(count(what));
        }
        for (int i = 0; i < now().people.size(); i++) {
            for (int what = 0; what <= 5; what++) {
                all.add(number(i, what));
            }
        }
        kept.forEach(place -> all.add(place == null ? -1 : place.size() - 1));
        rows.forEach(row -> list(all, row));
        texts.forEach(text -> list(all, text));
        long h = 17;
        for (int v : all) {
            h = 31 * h + v;
        }
        return h;
    }

    private static void list(List<Integer> all, List<Integer> one) {
        all.add(one == null ? -1 : one.size());
        if (one != null) {
            all.addAll(one);
        }
    }
}
