import java.util.ArrayDeque;
import java.util.ArrayList;
import java.util.Arrays;
import java.util.HashMap;
import java.util.HashSet;
import java.util.LinkedHashMap;
import java.util.List;
import java.util.Map;
import java.util.Random;
import java.util.Set;
import java.util.TreeSet;

/** Long runs of calls, the answers against those of a second, slower program made from the document alone. */
public final class ModelTest {
    private static final int NONE = -1;
    private static final int RUNS = 2000;
    /** The document promises nothing of what an object answers later. */
    private static final int CALLS = 512;
    /** More than one step of a run can need. */
    private static final int CALLS_OF_A_STEP = 40;
    /** Kinds of steps that are one call each. */
    private static final int[] ONE_CALL = {2, 9, 12, 13, 20, 22, 25, 26, 29};

    public static void main(String[] args) {
        int wrong = 0;
        for (int run = 0; run < RUNS && wrong < 20; run++) {
            wrong += new Run(run).go();
        }
        System.out.println(RUNS + " runs of " + CALLS + " calls, " + wrong + " wrong");
        if (wrong != 0) {
            System.exit(1);
        }
    }

    /** The document once more: lists, maps and all ways tried one after the other. */
    private static final class Model {
        final List<int[]> persons = new ArrayList<>();
        final Set<List<Integer>> kin = new HashSet<>();
        final List<int[]> fields = new ArrayList<>();
        final List<int[]> transfers = new ArrayList<>();
        final Map<List<Integer>, TreeSet<Integer>> shares = new LinkedHashMap<>();
        final List<Deal> deals = new ArrayList<>();
        int today = 0;
        String tape = "";
        int fault = NONE;
        List<int[]> statements = new ArrayList<>();

        static final class Deal {
            int field;
            int buyer;
            int owed;
            int paid;
            int putOff;
            final ArrayDeque<Integer> parts = new ArrayDeque<>();
        }

        boolean in(int value, int least, int most) {
            return least <= value && value <= most;
        }

        boolean isPerson(int p) {
            return in(p, 0, persons.size() - 1);
        }

        boolean isField(int f) {
            return in(f, 0, fields.size() - 1);
        }

        int person(int house, int home) {
            if (!in(house, 0, 19) || !in(home, 0, 99) || persons.size() == 40) {
                return NONE;
            }
            persons.add(new int[] {house, home});
            return persons.size() - 1;
        }

        boolean isAkin(int a, int b) {
            return kin.contains(List.of(a, b)) || kin.contains(List.of(b, a));
        }

        boolean akin(int a, int b) {
            if (!isPerson(a) || !isPerson(b) || a == b || isAkin(a, b)) {
                return false;
            }
            return kin.add(List.of(a, b));
        }

        int field(int place, int area, int soil, int crop, int owner) {
            if (!in(place, 0, 99) || !in(area, 1, 100) || !in(soil, 0, 3) || !in(crop, 0, 9) || !isPerson(owner)
                    || fields.size() == 60) {
                return NONE;
            }
            fields.add(new int[] {place, area, soil, crop, owner});
            return fields.size() - 1;
        }

        boolean day(int d) {
            if (!in(d, today + 1, 1000)) {
                return false;
            }
            today = d;
            return true;
        }

        boolean transfer(int f, int to) {
            if (!isField(f) || !isPerson(to) || owned(f, 1000) == to || transfers.size() == 200) {
                return false;
            }
            return transfers.add(new int[] {f, to, today});
        }

        int owned(int f, int day) {
            if (!isField(f) || !in(day, 0, 1000)) {
                return NONE;
            }
            int owner = fields.get(f)[4];
            for (int[] t : transfers) {
                owner = t[0] == f && t[2] <= day ? t[1] : owner;
            }
            return owner;
        }

        int feed(int... numbers) {
            if (tape.length() + 20 > 400) {
                return NONE;
            }
            for (int n : numbers) {
                for (int i = 3; i >= 0; i--) {
                    tape += (char) (n >>> 8 * i & 255);
                }
            }
            return tape.length();
        }

        static final String[] KINDS = {"ceiling", "family", "day", "exempt", "soil", "price", "years", "shares"};

        int act(int n) {
            if (!in(n, 0, tape.length())) {
                return -2;
            }
            String text = tape.substring(0, n);
            tape = "";
            List<int[]> read = new ArrayList<>();
            fault = read(text, read);
            if (fault != NONE) {
                return NONE;
            }
            statements = read;
            return read.size();
        }

        /** An automaton over tokens: state 0 between statements, else what comes next. */
        int read(String text, List<int[]> read) {
            String state = "start";
            int kind = 0;
            int soil = 0;
            int value = 0;
            int at = 0;
            while (true) {
                while (at < text.length() && (text.charAt(at) == ' ' || text.charAt(at) == '\n')) {
                    at++;
                }
                if (at == text.length()) {
                    return state.equals("start") ? NONE : at;
                }
                String rest = text.substring(at);
                String token = rest.replaceAll("(?s)^([a-z]+|[0-9]+|;|).*$", "$1");
                boolean number = token.matches("[0-9]{1,4}");
                int worth = number ? Integer.parseInt(token) : NONE;
                switch (state) {
                    case "start":
                        kind = Arrays.asList(KINDS).indexOf(token);
                        if (kind < 0 || read.size() == 16) {
                            return at;
                        }
                        state = kind == 4 ? "soil" : "value";
                        break;
                    case "soil":
                        if (!number || worth > 3) {
                            return at;
                        }
                        soil = worth;
                        state = "is";
                        break;
                    case "is":
                        if (!token.equals("is")) {
                            return at;
                        }
                        state = "value";
                        break;
                    case "value":
                        if (!number || kind == 6 && !in(worth, 1, 40)) {
                            return at;
                        }
                        value = worth;
                        state = "end";
                        break;
                    default:
                        if (!token.equals(";")) {
                            return at;
                        }
                        read.add(new int[] {kind, kind == 4 ? soil : 0, value});
                        state = "start";
                }
                at += token.length();
            }
        }

        int ruled(int kind, int soil, int otherwise) {
            int value = otherwise;
            for (int[] s : statements) {
                value = s[0] == kind && s[1] == soil ? s[2] : value;
            }
            return value;
        }

        boolean exempt(int f) {
            return statements.stream().anyMatch(s -> s[0] == 3 && s[2] == fields.get(f)[3]);
        }

        int standard(int f) {
            return fields.get(f)[1] * ruled(4, fields.get(f)[2], 10) / 10;
        }

        int counted(int f) {
            int actDay = ruled(2, 0, 1000);
            int owner = owned(f, Math.min(actDay, 1000));
            for (int[] t : transfers) {
                if (t[0] != f || t[2] <= actDay) {
                    continue;
                }
                boolean gift = persons.get(t[1])[0] == persons.get(owner)[0] || isAkin(t[1], owner);
                owner = gift ? owner : t[1];
            }
            return owner;
        }

        int tenant(int f) {
            Map<Integer, List<Integer>> byYears = new HashMap<>();
            int most = 0;
            for (int p = 0; p < persons.size(); p++) {
                TreeSet<Integer> years = shares.get(List.of(f, p));
                if (years == null || p == owned(f, 1000) || years.size() < ruled(7, 0, 2)) {
                    continue;
                }
                byYears.computeIfAbsent(years.size(), y -> new ArrayList<>()).add(p);
                most = Math.max(most, years.size());
            }
            List<Integer> best = byYears.getOrDefault(most, List.of());
            return best.size() == 1 ? best.get(0) : NONE;
        }

        int told(int f, int what) {
            if (!isField(f) || !in(what, 0, 9)) {
                return NONE;
            }
            if (what < 4) {
                return fields.get(f)[what];
            }
            switch (what) {
                case 4: return owned(f, 1000);
                case 5: return standard(f);
                case 6: return counted(f);
                case 7: return tenant(f);
                case 8: return exempt(f) ? 1 : 0;
                default: return (int) transfers.stream().filter(t -> t[0] == f).count();
            }
        }

        List<Integer> counting(int house) {
            List<Integer> found = new ArrayList<>();
            for (int f = 0; f < fields.size(); f++) {
                if (persons.get(counted(f))[0] == house && !exempt(f)) {
                    found.add(f);
                }
            }
            return found;
        }

        int members(int house) {
            return (int) persons.stream().filter(p -> p[0] == house).count();
        }

        int mayHave(int house) {
            return ruled(0, 0, 100) + ruled(1, 0, 0) * Math.max(0, members(house) - 5);
        }

        int house(int house, int what) {
            if (!in(house, 0, 19) || !in(what, 0, 4)) {
                return NONE;
            }
            int holding = counting(house).stream().mapToInt(this::standard).sum();
            int[] answers = {
                members(house), holding, mayHave(house), Math.max(0, holding - mayHave(house)), counting(house).size()};
            return answers[what];
        }

        /** The best set; from the greatest number down, so that the least of equal ones is the last found. */
        int bestSet(int house, List<Integer> mine) {
            int best = 0;
            int bestArea = 0;
            for (int set = (1 << mine.size()) - 1; set >= 0; set--) {
                int standard = 0;
                int area = 0;
                for (int i = 0; i < mine.size(); i++) {
                    if ((set & 1 << i) != 0) {
                        standard += standard(mine.get(i));
                        area += fields.get(mine.get(i))[1];
                    }
                }
                if (standard <= mayHave(house) && area >= bestArea) {
                    best = set;
                    bestArea = area;
                }
            }
            return best;
        }

        int kept(int house, int k) {
            if (!in(house, 0, 19)) {
                return NONE;
            }
            List<Integer> mine = counting(house);
            if (!in(k, NONE, mine.size() - 1) || mine.size() > 12) {
                return NONE;
            }
            int set = bestSet(house, mine);
            int sum = 0;
            for (int i = 0; i < mine.size(); i++) {
                sum += (set >> i & 1) * fields.get(mine.get(i))[1];
            }
            return k == NONE ? sum : set >> k & 1;
        }

        int taken(int house, int k) {
            if (!in(house, 0, 19) || house(house, 3) == 0 || house(house, 4) > 12) {
                return NONE;
            }
            List<Integer> mine = counting(house);
            int set = bestSet(house, mine);
            List<Integer> others = new ArrayList<>();
            for (int i = 0; i < mine.size(); i++) {
                if ((set >> i & 1) == 0) {
                    others.add(mine.get(i));
                }
            }
            return in(k, 0, others.size() - 1) ? others.get(k) : NONE;
        }

        int share(int f, int p, int year) {
            if (!isField(f) || !isPerson(p) || !in(year, 0, 29)) {
                return NONE;
            }
            List<Integer> pair = List.of(f, p);
            if (!shares.containsKey(pair) && shares.size() == 60) {
                return NONE;
            }
            TreeSet<Integer> years = shares.computeIfAbsent(pair, x -> new TreeSet<>());
            years.add(year);
            return years.size();
        }

        int far(int f, int p) {
            return Math.abs(fields.get(f)[0] - persons.get(p)[1]);
        }

        void ways(List<Integer> way, int m, List<List<Integer>> all) {
            if (way.size() == m) {
                all.add(new ArrayList<>(way));
            }
            for (int i = 0; i < m; i++) {
                if (!way.contains(i)) {
                    way.add(i);
                    ways(way, m, all);
                    way.remove(way.size() - 1);
                }
            }
        }

        int given(int f, int p, int m, int k) {
            if (!in(m, 1, 5) || !in(k, NONE, m - 1) || !isField(f) || !isField(f + m - 1) || !isPerson(p)
                    || !isPerson(p + m - 1)) {
                return NONE;
            }
            List<List<Integer>> all = new ArrayList<>();
            ways(new ArrayList<>(), m, all);
            int least = Integer.MAX_VALUE;
            List<Integer> first = null;
            for (List<Integer> way : all) {
                int sum = 0;
                for (int i = 0; i < m; i++) {
                    sum += far(f + i, p + way.get(i));
                }
                if (sum < least) {
                    least = sum;
                    first = way;
                }
            }
            return k == NONE ? least : p + first.get(k);
        }

        /** Field by person, and under NONE how many rings; null: not as told. */
        Map<Integer, Integer> ringed(int p, int m) {
            if (!in(m, 2, 8) || !isPerson(p) || !isPerson(p + m - 1)) {
                return null;
            }
            Map<Integer, Integer> holder = new HashMap<>();
            for (int i = p; i < p + m; i++) {
                int f = 0;
                while (f < fields.size() && owned(f, 1000) != i) {
                    f++;
                }
                if (f == fields.size()) {
                    return null;
                }
                holder.put(f, i);
            }
            Map<Integer, Integer> result = new HashMap<>();
            int rings = 0;
            while (!holder.isEmpty()) {
                // Whoever starts, as many steps as persons lead into a ring; that one is closed alone.
                int at = holder.values().iterator().next();
                for (int i = 0; i < m; i++) {
                    at = holder.get(wanted(at, holder.keySet()));
                }
                Map<Integer, Integer> ring = new HashMap<>();
                while (!ring.containsKey(at)) {
                    int f = wanted(at, holder.keySet());
                    ring.put(at, f);
                    at = holder.get(f);
                }
                holder.keySet().removeAll(ring.values());
                result.putAll(ring);
                rings++;
            }
            result.put(NONE, rings);
            return result;
        }

        int wanted(int p, Set<Integer> there) {
            return there.stream().min((f, g) -> far(f, p) != far(g, p) ? far(f, p) - far(g, p) : f - g).get();
        }

        int rings(int p, int m, int k) {
            Map<Integer, Integer> ringed = in(k, NONE, m - 1) ? ringed(p, m) : null;
            return ringed == null ? NONE : ringed.get(k == NONE ? NONE : p + k);
        }

        int swap(int p, int m) {
            Map<Integer, Integer> ringed = ringed(p, m);
            if (ringed == null) {
                return NONE;
            }
            List<int[]> changes = new ArrayList<>();
            for (int i = p; i < p + m; i++) {
                if (owned(ringed.get(i), 1000) != i) {
                    changes.add(new int[] {ringed.get(i), i, today});
                }
            }
            if (transfers.size() + changes.size() > 200) {
                return NONE;
            }
            changes.sort((a, b) -> a[0] - b[0]);
            transfers.addAll(changes);
            return changes.size();
        }

        int sell(int f, int buyer) {
            if (!isField(f) || !isPerson(buyer) || deals.size() == 20) {
                return NONE;
            }
            Deal d = new Deal();
            d.field = f;
            d.buyer = buyer;
            d.owed = ruled(5, 0, 1) * standard(f);
            int years = ruled(6, 0, 10);
            int left = d.owed;
            for (int i = 1; i < years; i++) {
                d.parts.addLast(d.owed / years);
                left -= d.owed / years;
            }
            d.parts.addLast(left);
            deals.add(d);
            return deals.size() - 1;
        }

        int year(int s, boolean good) {
            if (!in(s, 0, deals.size() - 1) || deals.get(s).parts.isEmpty()) {
                return NONE;
            }
            Deal d = deals.get(s);
            int part = d.parts.removeFirst();
            if (!good) {
                d.parts.addLast(part);
                d.putOff++;
                return 0;
            }
            d.paid += part;
            return part;
        }

        int sale(int s, int what) {
            if (!in(s, 0, deals.size() - 1) || !in(what, 0, 5)) {
                return NONE;
            }
            Deal d = deals.get(s);
            return new int[] {d.field, d.buyer, d.owed, d.paid, d.parts.size(), d.putOff}[what];
        }

        int count(int what) {
            int[] counts = {
                today, persons.size(), fields.size(), transfers.size(), statements.size(), deals.size(), tape.length(),
                kin.size()};
            return in(what, 0, 7) ? counts[what] : NONE;
        }
    }

    /** One run of calls, of a kind that its number chooses. */
    private static final class Run {
        final int number;
        final Random random;
        final LandReform x = new LandReform();
        final Model model = new Model();
        final int houses;
        final int manyPersons;
        final int manyFields;
        final int favourite;
        int calls = 0;
        int wrong = 0;

        Run(int number) {
            this.number = number;
            random = new Random(number);
            houses = 1 + random.nextInt(20);
            manyPersons = 2 + random.nextInt(40);
            manyFields = 2 + random.nextInt(60);
            // Some runs have so much of one kind that its limit is met.
            favourite = random.nextInt(60);
        }

        int go() {
            while (calls < CALLS && wrong == 0) {
                if (calls + CALLS_OF_A_STEP <= CALLS) {
                    step();
                } else {
                    callOther(ONE_CALL[random.nextInt(ONE_CALL.length)]);
                }
            }
            return wrong;
        }

        void due(String call, int got, int want) {
            calls++;
            if (got != want) {
                wrong++;
                System.out.println("run " + number + ": " + call + " answered " + got + ", due is " + want);
            }
        }

        int pick(int least, int most) {
            int odd = random.nextInt(60);
            if (odd == 0) {
                return least - 1;
            }
            if (odd == 1) {
                return most + 1;
            }
            return odd == 2 ? random.nextInt() : least + random.nextInt(Math.max(1, most - least + 1));
        }

        int somePerson() {
            return pick(0, model.persons.size() - 1);
        }

        int someField() {
            return pick(0, model.fields.size() - 1);
        }

        void step() {
            int persons = model.persons.size();
            int fields = model.fields.size();
            if (persons < 2 || persons < manyPersons && random.nextInt(3) == 0) {
                callPerson();
            } else if (fields < 2 || fields < manyFields && random.nextInt(2) == 0) {
                callField();
            } else if (favourite < 30 && random.nextBoolean()) {
                callOther(favourite);
            } else {
                callOther(random.nextInt(30));
            }
        }

        void callPerson() {
            int house = pick(0, houses - 1);
            int home = pick(0, 99);
            due("person " + house + " " + home, x.person(house, home), model.person(house, home));
        }

        void callField() {
            int place = pick(0, 99);
            int area = random.nextBoolean() ? pick(1, 100) : pick(1, 4) * 10;
            int soil = pick(0, 3);
            int crop = pick(0, 9);
            int owner = somePerson();
            due("field", x.field(place, area, soil, crop, owner), model.field(place, area, soil, crop, owner));
        }

        void callOther(int kind) {
            int f = someField();
            int p = somePerson();
            int q = somePerson();
            int h = pick(0, houses - 1);
            switch (kind) {
                case 0:
                    due("akin " + p + " " + q, x.akin(p, q) ? 1 : 0, model.akin(p, q) ? 1 : 0);
                    break;
                case 1:
                    int d = random.nextInt(4) == 0 ? pick(0, 1000) : model.today + random.nextInt(9);
                    due("day " + d, x.day(d) ? 1 : 0, model.day(d) ? 1 : 0);
                    break;
                case 2: case 3: case 4: case 5: case 6: case 7:
                    due("transfer " + f + " " + p, x.transfer(f, p) ? 1 : 0, model.transfer(f, p) ? 1 : 0);
                    break;
                case 8:
                    callAct();
                    break;
                case 9: case 10: case 11:
                    int what = pick(4, 9);
                    due("told " + f + " " + what, x.told(f, what), model.told(f, what));
                    break;
                case 12:
                    int day = random.nextBoolean() ? pick(0, model.today) : pick(0, 1000);
                    due("owned " + f + " " + day, x.owned(f, day), model.owned(f, day));
                    break;
                case 13: case 14:
                    int w = pick(0, 4);
                    due("house " + h + " " + w, x.house(h, w), model.house(h, w));
                    break;
                case 15: case 16:
                    int k = pick(NONE, 6);
                    due("kept " + h + " " + k, x.kept(h, k), model.kept(h, k));
                    due("taken " + h + " " + k, x.taken(h, k), model.taken(h, k));
                    break;
                default:
                    callMore(kind, f, p, q);
            }
        }

        void callMore(int kind, int f, int p, int q) {
            int m = pick(1, 5);
            int n = pick(2, 8);
            switch (kind) {
                case 17: case 18: case 19:
                    int tilled = random.nextBoolean() ? f % 3 : f;
                    int year = pick(0, 29);
                    due("share", x.share(tilled, p, year), model.share(tilled, p, year));
                    due("tenant", x.told(tilled, 7), model.told(tilled, 7));
                    break;
                case 20: case 21:
                    int k = pick(NONE, m - 1);
                    due("given " + f + " " + p + " " + m + " " + k, x.given(f, p, m, k), model.given(f, p, m, k));
                    break;
                case 22: case 23: case 24:
                    int j = pick(NONE, n - 1);
                    due("rings " + p + " " + n + " " + j, x.rings(p, n, j), model.rings(p, n, j));
                    break;
                case 25:
                    due("swap " + p + " " + n, x.swap(p, n), model.swap(p, n));
                    break;
                case 26:
                    due("sell " + f + " " + p, x.sell(f, p), model.sell(f, p));
                    break;
                case 27: case 28:
                    int s = pick(0, Math.min(2, model.deals.size() - 1));
                    boolean good = random.nextInt(3) > 0;
                    due("year " + s, x.year(s, good), model.year(s, good));
                    int part = pick(0, 5);
                    due("sale " + s + " " + part, x.sale(s, part), model.sale(s, part));
                    break;
                default:
                    int c = pick(0, 7);
                    due("count " + c, x.count(c), model.count(c));
            }
        }

        void callAct() {
            String text = random.nextInt(8) == 0 ? noise() : statements();
            if (random.nextInt(3) == 0 && !text.isEmpty()) {
                text = spoilt(text);
            }
            int length = text.length();
            while (text.length() % 20 != 0) {
                text += " ";
            }
            for (int i = 0; i < text.length(); i += 20) {
                int[] n = new int[5];
                for (int j = 0; j < 20; j++) {
                    n[j / 4] = n[j / 4] << 8 | text.charAt(i + j);
                }
                due("feed", x.feed(n[0], n[1], n[2], n[3], n[4]), model.feed(n));
            }
            int n = random.nextInt(12) == 0 ? pick(0, model.tape.length()) : Math.min(length, model.tape.length());
            due("act [" + text + "] " + n, x.act(n), model.act(n));
            due("fault of [" + text + "] " + n, x.fault(), model.fault);
        }

        String statements() {
            StringBuilder text = new StringBuilder();
            int many = random.nextInt(4) == 0 ? 14 + random.nextInt(5) : random.nextInt(8);
            for (int i = 0; i < many; i++) {
                text.append(blanks(0)).append(statement(random.nextInt(8))).append(blanks(0)).append(';');
            }
            return text.append(blanks(0)).toString();
        }

        String statement(int kind) {
            int[] usual = {300, 40, model.today + 3, 12, 30, 9999, 41, 4};
            int value = random.nextInt(20) == 0 ? random.nextInt(12000) : random.nextInt(usual[kind] + 1);
            value = kind == 6 ? Math.max(value, random.nextInt(3)) : value;
            String soil = kind == 4 ? random.nextInt(random.nextInt(20) == 0 ? 6 : 4) + blanks(0) + "is" + blanks(0) : "";
            return Model.KINDS[kind] + blanks(0) + soil + value;
        }

        String blanks(int least) {
            String[] some = {"", "", " ", " ", "\n", "  "};
            return some[least + random.nextInt(some.length - least)];
        }

        String spoilt(String text) {
            String signs = "; \n0159azix{/:`A,\t\u00e9\u0000";
            int at = random.nextInt(text.length());
            char sign = signs.charAt(random.nextInt(signs.length()));
            switch (random.nextInt(4)) {
                case 0: return text.substring(0, at);
                case 1: return text.substring(0, at) + text.substring(at + 1);
                case 2: return text.substring(0, at) + sign + text.substring(at);
                default: return text.substring(0, at) + sign + text.substring(at + 1);
            }
        }

        String noise() {
            String[] tokens = {"soil", "is", "day", "years", "5", "3", "40", "41", "12345", ";", ";", "ceiling", "x", " ", "\n"};
            StringBuilder text = new StringBuilder();
            for (int i = random.nextInt(12); i > 0; i--) {
                text.append(tokens[random.nextInt(tokens.length)]).append(blanks(0));
            }
            return text.toString();
        }
    }
}
