import java.util.ArrayList;
import java.util.Arrays;
import java.util.HashMap;
import java.util.HashSet;
import java.util.List;
import java.util.Map;
import java.util.NoSuchElementException;
import java.util.Set;
import java.util.TreeSet;
import java.util.function.ToIntFunction;
import java.util.regex.Matcher;
import java.util.regex.Pattern;

/**
 * The document once more, word by word and without care for room or speed: bytes really lie on disks here, what is
 * lost is really worked out of the others, and what a loss would do is found by losing a copy's disk. The random
 * runs hold the class against it.
 */
final class Model {
    static final class Fault extends RuntimeException {
        final int fault;

        Fault(int fault) {
            this.fault = fault;
        }
    }

    static final class Token {
        String kind;
        String text;
        int place;
    }

    static final class Block {
        String kind;
        List<Integer> disks = new ArrayList<>();
    }

    static final class Facts {
        int stripe;
        int size;
        int first;
        int which;
    }

    static final class Unit {
        int disk;
        int place;
        int datum = -1;
        int how;
        /** What lies on the disk; null when it is lost. */
        Integer stored = 0;
    }

    static final class Stripe {
        int block;
        int parity;
        int spare = -1;
        int sparePlace = -1;
        List<Unit> units = new ArrayList<>();

        boolean has(int disk) {
            return units.stream().anyMatch(u -> u.disk == disk);
        }

        long lostOnes() {
            return units.stream().filter(u -> u.how == 2).count();
        }

        boolean dead() {
            return lostOnes() >= 2;
        }

        boolean someAway() {
            return units.stream().anyMatch(u -> u.how == 1);
        }

        int now(Unit u) {
            return u.how == 0 ? u.disk : u.how == 1 ? spare : -1;
        }

        Unit on(int disk) {
            return units.stream().filter(u -> u.how != 2 && now(u) == disk).findFirst().orElse(null);
        }

        int xorBut(Unit left) {
            int all = 0;
            for (Unit u : units) {
                if (u != left) {
                    all ^= u.stored;
                }
            }
            return all;
        }
    }

    static final class Line {
        String verb;
        int first;
        int second;
    }

    StringBuilder tape = new StringBuilder();
    int disks;
    int speed = 4;
    List<Block> blocks = new ArrayList<>();
    ToIntFunction<Facts> law = f -> f.stripe;
    List<Stripe> stripes = new ArrayList<>();
    List<int[]> data = new ArrayList<>();
    Set<Integer> upDisks = new TreeSet<>();
    int[] loaded = new int[13];
    List<Line> lines = new ArrayList<>();
    List<int[]> seen = new ArrayList<>();
    Model[] marks = new Model[2];

    // ---- the texts

    private static final Pattern TOKEN = Pattern.compile("[a-z]+|[0-9]+|[ \n]+|.", Pattern.DOTALL);

    private static List<Token> tokens(String text) {
        List<Token> all = new ArrayList<>();
        Matcher m = TOKEN.matcher(text);
        while (m.find()) {
            Token t = new Token();
            t.text = m.group();
            t.place = m.start();
            char c = t.text.charAt(0);
            if (c == ' ' || c == '\n') {
                continue;
            }
            if (c >= 'a' && c <= 'z') {
                t.kind = t.text.length() <= 8 ? "word" : "none";
            } else if (c >= '0' && c <= '9') {
                t.kind = t.text.length() <= 4 ? "number" : "none";
            } else {
                t.kind = "()<=+-*;".indexOf(c) >= 0 ? "sign" : "none";
            }
            all.add(t);
        }
        Token end = new Token();
        end.kind = "end";
        end.text = "";
        end.place = text.length();
        all.add(end);
        return all;
    }

    private static final class Source {
        final List<Token> tokens;
        int i;

        Source(String text) {
            tokens = tokens(text);
        }

        Token look() {
            return tokens.get(i);
        }

        boolean is(String text) {
            return !look().kind.equals("none") && look().text.equals(text);
        }

        Fault fault(int kind) {
            return new Fault(kind + 16 * look().place);
        }

        void want(String text) {
            if (!is(text)) {
                throw fault(1);
            }
            i++;
        }

        int number(int low, int high) {
            if (!look().kind.equals("number")) {
                throw fault(1);
            }
            int n = Integer.parseInt(look().text);
            if (n < low || n > high) {
                throw fault(4);
            }
            i++;
            return n;
        }
    }

    private ToIntFunction<Facts> e(Source s, int within) {
        ToIntFunction<Facts> left = test(s, within);
        while (s.is("and") || s.is("or")) {
            boolean and = s.is("and");
            s.i++;
            ToIntFunction<Facts> a = left;
            ToIntFunction<Facts> b = test(s, within);
            left = and
                ? f -> a.applyAsInt(f) != 0 & b.applyAsInt(f) != 0 ? 1 : 0
                : f -> a.applyAsInt(f) != 0 | b.applyAsInt(f) != 0 ? 1 : 0;
        }
        return left;
    }

    private ToIntFunction<Facts> test(Source s, int within) {
        ToIntFunction<Facts> a = sum(s, within);
        if (s.is("<")) {
            s.i++;
            ToIntFunction<Facts> b = sum(s, within);
            return f -> a.applyAsInt(f) < b.applyAsInt(f) ? 1 : 0;
        }
        if (s.is("=")) {
            s.i++;
            ToIntFunction<Facts> b = sum(s, within);
            return f -> a.applyAsInt(f) == b.applyAsInt(f) ? 1 : 0;
        }
        return a;
    }

    private ToIntFunction<Facts> sum(Source s, int within) {
        ToIntFunction<Facts> left = product(s, within);
        while (s.is("+") || s.is("-")) {
            int sign = s.is("+") ? 1 : -1;
            s.i++;
            ToIntFunction<Facts> a = left;
            ToIntFunction<Facts> b = product(s, within);
            left = f -> a.applyAsInt(f) + sign * b.applyAsInt(f);
        }
        return left;
    }

    private ToIntFunction<Facts> product(Source s, int within) {
        ToIntFunction<Facts> left = part(s, within);
        while (s.is("*")) {
            s.i++;
            ToIntFunction<Facts> a = left;
            ToIntFunction<Facts> b = part(s, within);
            left = f -> a.applyAsInt(f) * b.applyAsInt(f);
        }
        return left;
    }

    private ToIntFunction<Facts> part(Source s, int within) {
        boolean fact = s.is("stripe") || s.is("size") || s.is("first") || s.is("which");
        if (!fact && !s.look().kind.equals("number") && !s.is("not") && !s.is("(")) {
            throw s.fault(1);
        }
        if (within == 5) {
            throw s.fault(5);
        }
        String text = s.look().text;
        s.i++;
        switch (text) {
            case "stripe": return f -> f.stripe;
            case "size": return f -> f.size;
            case "first": return f -> f.first;
            case "which": return f -> f.which;
            case "not": {
                ToIntFunction<Facts> a = part(s, within + 1);
                return f -> a.applyAsInt(f) == 0 ? 1 : 0;
            }
            case "(": {
                ToIntFunction<Facts> a = e(s, within + 1);
                s.want(")");
                return a;
            }
            default: {
                int n = Integer.parseInt(text);
                return f -> n;
            }
        }
    }

    int feed(long a, long b, long c) {
        for (long bytes : new long[] {a, b, c}) {
            for (int i = 7; i >= 0; i--) {
                int sign = (int) (bytes >> 8 * i & 255);
                if ((sign == 10 || sign > 31 && sign < 127) && tape.length() < 1000) {
                    tape.append((char) sign);
                }
            }
        }
        return tape.length();
    }

    private static int many(Block b, int n) {
        return b.kind.equals("once") ? 1 : b.kind.equals("cycle") ? n : 2;
    }

    private static int many(List<Block> blocks, int n) {
        int sum = 0;
        for (Block b : blocks) {
            sum += many(b, n);
        }
        return sum;
    }

    int array() {
        Source s = new Source(tape.toString());
        tape.setLength(0);
        Model m = new Model();
        Set<String> once = new HashSet<>();
        try {
            while (!s.look().kind.equals("end")) {
                m.arrayLine(s, once);
            }
        } catch (Fault f) {
            return f.fault;
        }
        m.lay();
        disks = m.disks;
        speed = m.speed;
        blocks = m.blocks;
        law = m.law;
        lines = m.lines;
        marks = m.marks;
        takeAll(m);
        return 0;
    }

    private void arrayLine(Source s, Set<String> once) {
        String word = s.look().text;
        if (!s.look().kind.equals("word") || !Set.of("disks", "block", "parity", "speed").contains(word)) {
            throw s.fault(1);
        }
        if (word.equals("block")) {
            block(s);
            return;
        }
        if (!once.add(word)) {
            throw s.fault(3);
        }
        s.i++;
        if (word.equals("disks")) {
            disks = s.number(2, 13);
        } else if (word.equals("speed")) {
            speed = s.number(1, 9);
        } else {
            law = e(s, 0);
        }
        s.want(";");
    }

    private void block(Source s) {
        if (blocks.size() == 6) {
            throw s.fault(5);
        }
        s.i++;
        if (!s.is("once") && !s.is("cycle") && !s.is("mirror") && !s.is("twice")) {
            throw s.fault(1);
        }
        Block b = new Block();
        b.kind = s.look().text;
        s.i++;
        while (s.look().kind.equals("number") || b.disks.size() < 2) {
            if (!s.look().kind.equals("number")) {
                throw s.fault(1);
            }
            int disk = Integer.parseInt(s.look().text);
            if (b.disks.contains(disk)) {
                throw s.fault(3);
            }
            if (disk >= disks) {
                throw s.fault(4);
            }
            if (b.disks.size() == 5) {
                throw s.fault(5);
            }
            b.disks.add(disk);
            s.i++;
        }
        blocks.add(b);
        if (s.is(";") && many(blocks, disks) > 40) {
            throw s.fault(5);
        }
        s.want(";");
    }

    int work() {
        Source s = new Source(tape.toString());
        tape.setLength(0);
        List<Line> told = new ArrayList<>();
        try {
            while (!s.look().kind.equals("end")) {
                told.add(workLine(s, told.size()));
            }
        } catch (Fault f) {
            return f.fault;
        }
        lines = told;
        return 0;
    }

    private Line workLine(Source s, int ahead) {
        Line l = new Line();
        l.verb = s.look().text;
        if (!s.look().kind.equals("word")
                || !Set.of("read", "write", "lose", "replace", "rebuild", "home").contains(l.verb)) {
            throw s.fault(1);
        }
        if (ahead == 40) {
            throw s.fault(5);
        }
        s.i++;
        switch (l.verb) {
            case "read": l.first = s.number(0, data.size() - 1); break;
            case "write": l.first = s.number(0, data.size() - 1); l.second = s.number(0, 255); break;
            case "lose": case "replace": l.first = s.number(0, disks - 1); break;
            default: l.first = s.number(1, 40);
        }
        s.want(";");
        return l;
    }

    // ---- the layout

    /** All as an ARRAY begins. */
    private void lay() {
        stripes = new ArrayList<>();
        data = new ArrayList<>();
        upDisks = new TreeSet<>();
        loaded = new int[13];
        seen = new ArrayList<>();
        for (int d = 0; d < disks; d++) {
            upDisks.add(d);
        }
        for (int b = 0; b < blocks.size(); b++) {
            for (int s = 0; s < many(blocks.get(b), disks); s++) {
                stripes.add(stripeOf(b, s));
            }
        }
        for (int i = 0; i < stripes.size(); i++) {
            Stripe stripe = stripes.get(i);
            for (int u = 0; u < stripe.units.size(); u++) {
                Unit unit = stripe.units.get(u);
                unit.place = (int) stripes.subList(0, i).stream().filter(a -> a.has(unit.disk)).count();
                if (u != stripe.parity) {
                    unit.datum = data.size();
                    data.add(new int[] {i, u});
                }
            }
        }
        for (int i = 0; i < stripes.size(); i++) {
            laySpare(i);
        }
    }

    private Stripe stripeOf(int b, int s) {
        Block block = blocks.get(b);
        Stripe stripe = new Stripe();
        stripe.block = b;
        for (int d : block.disks) {
            Unit unit = new Unit();
            unit.disk = d;
            if (block.kind.equals("cycle")) {
                unit.disk = (d + s) % disks;
            } else if (block.kind.equals("mirror") && s == 1) {
                unit.disk = disks - 1 - d;
            }
            stripe.units.add(unit);
        }
        Facts f = new Facts();
        f.stripe = stripes.size();
        f.size = stripe.units.size();
        f.first = stripe.units.get(0).disk;
        f.which = b;
        stripe.parity = Math.floorMod(law.applyAsInt(f), f.size);
        return stripe;
    }

    private long sparesAhead(int disk, int stripe) {
        return stripes.subList(0, stripe).stream().filter(a -> a.spare == disk).count();
    }

    private void laySpare(int i) {
        Stripe stripe = stripes.get(i);
        long fewest = Long.MAX_VALUE;
        for (int d = 0; d < disks; d++) {
            if (!stripe.has(d) && sparesAhead(d, i) < fewest) {
                fewest = sparesAhead(d, i);
                stripe.spare = d;
            }
        }
        if (stripe.spare >= 0) {
            int d = stripe.spare;
            stripe.sparePlace = (int) (stripes.stream().filter(a -> a.has(d)).count() + sparesAhead(d, i));
        }
    }

    // ---- copies

    private void takeAll(Model m) {
        stripes = m.stripes;
        data = m.data;
        upDisks = m.upDisks;
        loaded = m.loaded;
        seen = m.seen;
    }

    Model copy() {
        Model m = new Model();
        m.disks = disks;
        m.speed = speed;
        m.blocks = blocks;
        m.law = law;
        m.lay();
        m.upDisks = new TreeSet<>(upDisks);
        m.loaded = loaded.clone();
        m.seen = new ArrayList<>(seen);
        for (int i = 0; i < stripes.size(); i++) {
            for (int u = 0; u < stripes.get(i).units.size(); u++) {
                m.stripes.get(i).units.get(u).how = stripes.get(i).units.get(u).how;
                m.stripes.get(i).units.get(u).stored = stripes.get(i).units.get(u).stored;
            }
        }
        return m;
    }

    private boolean isDisk(int d) {
        return d >= 0 && d < disks;
    }

    private boolean isUp(int d) {
        return upDisks.contains(d);
    }

    private boolean isDatum(int d) {
        return d >= 0 && d < data.size();
    }

    private Stripe stripeOfDatum(int d) {
        return stripes.get(data.get(d)[0]);
    }

    private Unit unitOfDatum(int d) {
        return stripeOfDatum(d).units.get(data.get(d)[1]);
    }

    // ---- the face

    int stripe(int stripe, int what) {
        if (stripe < 0 || stripe >= stripes.size() || what < 0 || what > 5) {
            return -2;
        }
        Stripe s = stripes.get(stripe);
        int bits = 0;
        int away = -1;
        for (int u = 0; u < s.units.size(); u++) {
            bits += s.units.get(u).how == 2 ? 1 << u : 0;
            away = s.units.get(u).how == 1 ? u : away;
        }
        return new int[] {s.units.size(), s.parity, s.spare, s.block, bits, away}[what];
    }

    int unit(int stripe, int unit, int what) {
        if (stripe < 0 || stripe >= stripes.size() || what < 0 || what > 4) {
            return -2;
        }
        Stripe s = stripes.get(stripe);
        if (unit < 0 || unit >= s.units.size()) {
            return -2;
        }
        Unit u = s.units.get(unit);
        int value = u.how != 2 ? u.stored : s.dead() ? -1 : s.xorBut(u);
        return new int[] {u.disk, u.place, u.how, value, u.datum}[what];
    }

    int datum(int datum, int what) {
        if (!isDatum(datum) || what < 0 || what > 3) {
            return -2;
        }
        Stripe s = stripeOfDatum(datum);
        Unit u = unitOfDatum(datum);
        int place = u.how == 0 ? u.place : u.how == 1 ? s.sparePlace : -1;
        return new int[] {data.get(datum)[0], data.get(datum)[1], s.now(u), place}[what];
    }

    int at(int disk, int place) {
        Map<List<Integer>, Integer> held = new HashMap<>();
        for (int i = 0; i < stripes.size(); i++) {
            Stripe s = stripes.get(i);
            for (int u = 0; u < s.units.size(); u++) {
                put(held, s.units.get(u).disk, s.units.get(u).place, 8 * i + u);
            }
            if (s.spare >= 0) {
                put(held, s.spare, s.sparePlace, 8 * i + 7);
            }
        }
        return held.getOrDefault(List.of(disk, place), -1);
    }

    private static void put(Map<List<Integer>, Integer> held, int disk, int place, int what) {
        if (held.put(List.of(disk, place), what) != null) {
            throw new IllegalStateException("two at one place");
        }
    }

    int disk(int disk, int what) {
        if (!isDisk(disk) || what < 0 || what > 5) {
            return -1;
        }
        int units = 0;
        int parities = 0;
        int spares = 0;
        int there = 0;
        for (Stripe s : stripes) {
            for (Unit u : s.units) {
                units += u.disk == disk ? 1 : 0;
                parities += u.disk == disk && u.datum < 0 ? 1 : 0;
                there += s.now(u) == disk ? 1 : 0;
            }
            spares += s.spare == disk ? 1 : 0;
        }
        return new int[] {isUp(disk) ? 1 : 0, units, parities, spares, loaded[disk], there}[what];
    }

    /** The byte of a unit that is there, by one load. */
    private int fetch(Stripe s, Unit u) {
        loaded[s.now(u)]++;
        return u.stored;
    }

    private void put(Stripe s, Unit u, int value) {
        loaded[s.now(u)]++;
        u.stored = value;
    }

    private int fetchOthers(Stripe s, Unit but) {
        int all = 0;
        for (Unit u : s.units) {
            all ^= u == but ? 0 : fetch(s, u);
        }
        return all;
    }

    int read(int datum) {
        if (!isDatum(datum)) {
            return -1;
        }
        Stripe s = stripeOfDatum(datum);
        Unit u = unitOfDatum(datum);
        if (u.how != 2) {
            return fetch(s, u);
        }
        return s.dead() ? -1 : fetchOthers(s, u);
    }

    int write(int datum, int value) {
        if (!isDatum(datum) || value < 0 || value > 255 || stripeOfDatum(datum).dead()) {
            return -1;
        }
        int before = Arrays.stream(loaded).sum();
        Stripe s = stripeOfDatum(datum);
        Unit u = unitOfDatum(datum);
        Unit p = s.units.get(s.parity);
        if (u.how == 2) {
            int all = value;
            for (Unit other : s.units) {
                all ^= other == u || other == p ? 0 : fetch(s, other);
            }
            put(s, p, all);
        } else if (p.how == 2) {
            put(s, u, value);
        } else {
            int change = fetch(s, u) ^ value;
            put(s, p, fetch(s, p) ^ change);
            put(s, u, value);
        }
        return Arrays.stream(loaded).sum() - before;
    }

    int lose(int disk) {
        if (!isDisk(disk) || !isUp(disk)) {
            return -1;
        }
        int many = 0;
        for (Stripe s : stripes) {
            Unit u = s.on(disk);
            if (u != null) {
                u.how = 2;
                u.stored = null;
                many++;
            }
        }
        upDisks.remove(disk);
        return many;
    }

    boolean replace(int disk) {
        return isDisk(disk) && upDisks.add(disk);
    }

    int rebuild(int many) {
        if (many < 1 || many > 40) {
            return -1;
        }
        int done = 0;
        for (Stripe s : stripes) {
            if (s.lostOnes() != 1 || done == many) {
                continue;
            }
            Unit u = s.units.stream().filter(x -> x.how == 2).findFirst().get();
            boolean own = isUp(u.disk);
            if (own || (s.spare >= 0 && isUp(s.spare) && !s.someAway())) {
                int value = fetchOthers(s, u);
                u.how = own ? 0 : 1;
                put(s, u, value);
                done++;
            }
        }
        return done;
    }

    int home(int many) {
        if (many < 1 || many > 40) {
            return -1;
        }
        int done = 0;
        for (Stripe s : stripes) {
            for (Unit u : s.units) {
                if (u.how == 1 && isUp(u.disk) && done < many) {
                    int value = fetch(s, u);
                    u.how = 0;
                    put(s, u, value);
                    done++;
                }
            }
        }
        return done;
    }

    private int dead() {
        return (int) stripes.stream().filter(Stripe::dead).count();
    }

    int judged(int what) {
        if (what < 0 || what > 2) {
            return -2;
        }
        Model m = copy();
        m.lay();
        int first = -1;
        for (int i = 0; i < lines.size(); i++) {
            Line l = lines.get(i);
            boolean can = true;
            switch (l.verb) {
                case "read": can = m.read(l.first) >= 0; break;
                case "write": can = m.write(l.first, l.second) >= 0; break;
                case "lose": can = m.lose(l.first) >= 0; break;
                case "replace": can = m.replace(l.first); break;
                case "rebuild": m.rebuild(l.first); break;
                default: m.home(l.first);
            }
            first = !can && first < 0 ? i : first;
        }
        return new int[] {first, Arrays.stream(m.loaded).sum(), m.dead()}[what];
    }

    int pairs(int disk, int other) {
        if (!isDisk(disk) || !isDisk(other) || disk == other) {
            return -1;
        }
        return (int) stripes.stream().filter(s -> s.has(disk) && s.has(other)).count();
    }

    int even() {
        Set<Integer> all = new HashSet<>();
        for (int a = 0; a < disks; a++) {
            for (int b = 0; b < disks; b++) {
                if (a != b) {
                    all.add(pairs(a, b));
                }
            }
        }
        return all.size() == 1 ? all.iterator().next() : -1;
    }

    int worst(int disk) {
        int most = -1;
        for (int b = 0; isDisk(disk) && b < disks; b++) {
            most = Math.max(most, pairs(disk, b));
        }
        return most;
    }

    int spread(int what) {
        if (disks == 0 || what < 0 || what > 2) {
            return -1;
        }
        int[] row = new int[disks];
        for (int d = 0; d < disks; d++) {
            row[d] = disk(d, what + 1);
        }
        Arrays.sort(row);
        return row[disks - 1] - row[0];
    }

    private int differences(Set<Integer> set, int by) {
        return (int) set.stream().filter(d -> set.contains((d + by) % disks)).count();
    }

    int differs(int block, int by) {
        if (block < 0 || block >= blocks.size() || by < 1 || by >= disks) {
            return -1;
        }
        return differences(new TreeSet<>(blocks.get(block).disks), by);
    }

    int family() {
        Set<Integer> sums = new HashSet<>();
        boolean any = false;
        for (int by = 1; by < disks; by++) {
            int sum = 0;
            for (int b = 0; b < blocks.size(); b++) {
                if (blocks.get(b).kind.equals("cycle")) {
                    any = true;
                    sum += differs(b, by);
                }
            }
            sums.add(sum);
        }
        return any && sums.size() == 1 ? sums.iterator().next() : -1;
    }

    int seek(int size) {
        if (size < 2 || size > 5) {
            return -1;
        }
        List<Integer> best = null;
        int bits = -1;
        for (int set = 1; set < 1 << disks; set += 2) {
            List<Integer> list = new ArrayList<>();
            for (int d = 0; d < disks; d++) {
                if ((set >> d & 1) == 1) {
                    list.add(d);
                }
            }
            Set<Integer> often = new HashSet<>();
            for (int by = 1; by < disks; by++) {
                often.add(differences(new TreeSet<>(list), by));
            }
            if (list.size() == size && often.size() == 1 && (best == null || isBelow(list, best))) {
                best = list;
                bits = set;
            }
        }
        return bits;
    }

    private static boolean isBelow(List<Integer> a, List<Integer> b) {
        for (int i = 0; i < a.size(); i++) {
            if (!a.get(i).equals(b.get(i))) {
                return a.get(i) < b.get(i);
            }
        }
        return false;
    }

    int cost(int datum) {
        Model m = copy();
        return m.read(datum) < 0 ? -1 : Arrays.stream(m.loaded).sum() - Arrays.stream(loaded).sum();
    }

    int price(int datum) {
        return copy().write(datum, 0);
    }

    int would(int disk, int other) {
        if (!isUp(disk) || !isUp(other) || disk == other) {
            return -1;
        }
        int many = 0;
        for (Stripe s : stripes) {
            many += s.lostOnes() == 0 && s.on(disk) != null && s.on(other) != null ? 1 : 0;
        }
        return many;
    }

    int time(int disk, int readers) {
        if (!isUp(disk) || readers < 0 || readers >= speed) {
            return -1;
        }
        List<Stripe> left = new ArrayList<>();
        for (Stripe s : stripes) {
            if (s.lostOnes() == 0 && s.on(disk) != null && !s.someAway() && s.spare >= 0 && isUp(s.spare)) {
                left.add(s);
            }
        }
        int ticks = 0;
        while (!left.isEmpty()) {
            ticks++;
            int[] taken = new int[13];
            for (Stripe s : new ArrayList<>(left)) {
                List<Integer> busy = new ArrayList<>(List.of(s.spare));
                s.units.stream().filter(u -> s.now(u) != disk).forEach(u -> busy.add(s.now(u)));
                if (busy.stream().allMatch(d -> taken[d] < speed - readers)) {
                    busy.forEach(d -> taken[d]++);
                    left.remove(s);
                }
            }
        }
        return ticks;
    }

    private boolean newlyDead(int... gone) {
        Model m = copy();
        for (int d : gone) {
            m.lose(d);
        }
        return m.dead() > dead();
    }

    boolean bears(int disk) {
        return isUp(disk) && !newlyDead(disk);
    }

    int risk() {
        int many = 0;
        for (int a : upDisks) {
            for (int b : upDisks) {
                many += a < b && newlyDead(a, b) ? 1 : 0;
            }
        }
        return many;
    }

    int grow(int more, int what) {
        int then = disks + more;
        if (disks == 0 || more < 1 || more > 3 || what < 0 || what > 1 || then > 13 || many(blocks, then) > 40) {
            return -1;
        }
        Model m = new Model();
        m.disks = then;
        m.blocks = blocks;
        m.law = law;
        m.lay();
        if (what == 1) {
            int units = stripes.stream().mapToInt(s -> s.units.size()).sum();
            return units * more / then;
        }
        int moved = 0;
        for (int d = 0; d < data.size() && d < m.data.size(); d++) {
            Unit a = unitOfDatum(d);
            Unit b = m.unitOfDatum(d);
            moved += a.disk != b.disk || a.place != b.place ? 1 : 0;
        }
        return moved;
    }

    int lost(int i) {
        List<Integer> all = new ArrayList<>();
        for (int s = 0; s < stripes.size(); s++) {
            for (int u = 0; u < stripes.get(s).units.size(); u++) {
                if (stripes.get(s).units.get(u).how == 2) {
                    all.add(8 * s + u);
                }
            }
        }
        if (i < 0 || i >= all.size()) {
            throw new NoSuchElementException();
        }
        return all.get(i);
    }

    boolean see(int datum, boolean dearer) {
        if (!isDatum(datum) || seen.size() == 8) {
            return false;
        }
        seen.add(new int[] {datum, dearer ? 1 : 0});
        return true;
    }

    /** By datum, then by disk: whether a read of it would be dearer, or could not be, without the disk. */
    private boolean[][] dearer() {
        boolean[][] table = new boolean[data.size()][13];
        for (int d : upDisks) {
            Model m = copy();
            m.lose(d);
            for (int i = 0; i < data.size(); i++) {
                table[i][d] = m.plainCost(i) > plainCost(i) || m.plainCost(i) < 0;
            }
        }
        return table;
    }

    private int plainCost(int datum) {
        Stripe s = stripeOfDatum(datum);
        return unitOfDatum(datum).how != 2 ? 1 : s.dead() ? -1 : s.units.size() - 1;
    }

    int who() {
        return who(dearer());
    }

    private int who(boolean[][] table) {
        int bits = 0;
        for (int d : upDisks) {
            boolean fits = seen.stream().allMatch(s -> table[s[0]][d] == (s[1] == 1));
            bits += fits ? 1 << d : 0;
        }
        return bits;
    }

    int ask() {
        boolean[][] table = dearer();
        int bits = who(table);
        int best = -1;
        int least = Integer.bitCount(bits);
        for (int i = 0; i < data.size(); i++) {
            int so = 0;
            int not = 0;
            for (int d = 0; d < disks; d++) {
                if ((bits >> d & 1) == 1) {
                    so += table[i][d] ? 1 : 0;
                    not += table[i][d] ? 0 : 1;
                }
            }
            if (Math.max(so, not) < least) {
                least = Math.max(so, not);
                best = i;
            }
        }
        return best;
    }

    private java.math.BigInteger g;

    private int draw(int m) {
        g = g.multiply(java.math.BigInteger.valueOf(1103515245)).add(java.math.BigInteger.valueOf(12345))
            .mod(java.math.BigInteger.valueOf(2147483648L));
        return g.divide(java.math.BigInteger.valueOf(65536)).mod(java.math.BigInteger.valueOf(m)).intValue();
    }

    int loads(int seed, int many, int what) {
        if (seed < 0 || seed > 9999 || many < 1 || many > 99 || what < 0 || what > 2) {
            return -1;
        }
        Model m = copy();
        g = java.math.BigInteger.valueOf(seed);
        for (int i = 0; i < many && data.size() > 0; i++) {
            int kind = draw(8);
            if (kind < 5) {
                int datum = draw(data.size());
                int value = draw(256);
                if (kind < 3) {
                    m.read(datum);
                } else {
                    m.write(datum, value);
                }
            } else if (kind == 5) {
                m.lose(draw(disks));
            } else if (kind == 6) {
                m.replace(draw(disks));
            } else {
                m.rebuild(draw(4) + 1);
            }
        }
        int[] row = Arrays.copyOf(m.loaded, disks);
        Arrays.sort(row);
        int sum = Arrays.stream(m.loaded).sum() - Arrays.stream(loaded).sum();
        return new int[] {sum, m.dead(), disks == 0 ? 0 : row[disks - 1] - row[0]}[what];
    }

    boolean mark(int mark, boolean back) {
        if (mark < 0 || mark > 1 || (back && marks[mark] == null)) {
            return false;
        }
        if (back) {
            takeAll(marks[mark].copy());
        } else {
            marks[mark] = copy();
        }
        return true;
    }

    int count(int what) {
        int lostOnes = 0;
        int away = 0;
        for (Stripe s : stripes) {
            for (Unit u : s.units) {
                lostOnes += u.how == 2 ? 1 : 0;
                away += u.how == 1 ? 1 : 0;
            }
        }
        int bits = 0;
        for (int d : upDisks) {
            bits |= 1 << d;
        }
        int[] all = {disks, blocks.size(), stripes.size(), data.size(), bits, lostOnes, away, dead(),
            Arrays.stream(loaded).sum(), speed, lines.size(), seen.size(), tape.length()};
        return what < 0 || what > 12 ? -1 : all[what];
    }
}
