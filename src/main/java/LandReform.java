import java.util.Arrays;

/** A land reform: who owns which field, what an act takes and gives, who swaps and who pays. */
public final class LandReform {
    public static final int NONE = -1;

    private static final int NO_SUCH_LENGTH = -2;

    private static final int MOST_PERSONS = 40;
    private static final int MOST_FIELDS = 60;
    private static final int MOST_TRANSFERS = 200;
    private static final int MOST_PAIRS = 60;
    private static final int MOST_SALES = 20;
    private static final int MOST_BYTES = 400;
    private static final int BYTES_FED = 20;
    private static final int MOST_STATEMENTS = 16;
    private static final int MOST_DIGITS = 4;
    private static final int MOST_NUMBER = 9999;
    private static final int MOST_YEARS = 40;
    private static final int MOST_WEIGHED = 12;
    private static final int MOST_GIVEN = 5;
    private static final int LEAST_IN_RINGS = 2;
    private static final int MOST_IN_RINGS = 8;

    private static final int HOUSES = 20;
    private static final int PLACES = 100;
    private static final int MOST_AREA = 100;
    private static final int SOILS = 4;
    private static final int CROPS = 10;
    private static final int LAST_DAY = 1000;
    private static final int TILLED_YEARS = 30;
    private static final int PERSONS_WITHOUT_FAMILY = 5;
    private static final int SOIL_UNIT = 10;

    private static final int CEILING = 0;
    private static final int FAMILY = 1;
    private static final int DAY = 2;
    private static final int EXEMPT = 3;
    private static final int SOIL = 4;
    private static final int PRICE = 5;
    private static final int YEARS = 6;
    private static final int SHARES = 7;

    private final People people;
    private final Land land;
    private final Tape tape;
    private final Reader reader;
    private final Holding holding;
    private final Tenancies tenancies;
    private final Giving giving;
    private final Rings rings;
    private final Sale[] sales;
    private int saleCount;
    private Law law;
    private Law draft;

    public LandReform() {
        people = new People();
        land = new Land();
        tape = new Tape();
        reader = new Reader(tape.bytes);
        holding = new Holding();
        tenancies = new Tenancies();
        giving = new Giving();
        rings = new Rings();
        sales = new Sale[MOST_SALES];
        law = new Law();
        draft = new Law();
    }

    public int person(int house, int home) {
        if (!isBelow(house, HOUSES) || !isBelow(home, PLACES)) {
            return NONE;
        }
        return people.add(house, home);
    }

    public boolean akin(int a, int b) {
        return people.bind(a, b);
    }

    public int field(int place, int area, int soil, int crop, int owner) {
        boolean asTold = isBelow(place, PLACES) && area >= 1 && area <= MOST_AREA
                && isBelow(soil, SOILS) && isBelow(crop, CROPS) && people.has(owner);
        return asTold ? land.add(place, area, soil, crop, owner) : NONE;
    }

    public boolean day(int d) {
        if (d <= land.today || d > LAST_DAY) {
            return false;
        }
        land.today = d;
        return true;
    }

    public boolean transfer(int field, int to) {
        if (!land.has(field) || !people.has(to) || land.ownerOf(field) == to || land.transfersLeft() < 1) {
            return false;
        }
        land.move(field, to);
        return true;
    }

    public int feed(int a, int b, int c, int d, int e) {
        if (tape.room() < BYTES_FED) {
            return NONE;
        }
        tape.append(a);
        tape.append(b);
        tape.append(c);
        tape.append(d);
        tape.append(e);
        return tape.length;
    }

    public int act(int n) {
        if (n < 0 || n > tape.length) {
            return NO_SUCH_LENGTH;
        }
        boolean sound = reader.readAct(n, draft);
        tape.length = 0;
        if (!sound) {
            return NONE;
        }
        Law former = law;
        law = draft;
        draft = former;
        return law.statements;
    }

    public int fault() {
        return reader.fault;
    }

    public int told(int field, int what) {
        if (!land.has(field)) {
            return NONE;
        }
        switch (what) {
            case 0: return land.placeOf(field);
            case 1: return land.areaOf(field);
            case 2: return land.soilOf(field);
            case 3: return land.cropOf(field);
            case 4: return land.ownerOf(field);
            case 5: return land.standardOf(field, law);
            case 6: return holding.countedOwner(field, land, people, law);
            case 7: return tenancies.tenantOf(field, land.ownerOf(field), law.shares);
            case 8: return law.exempts(land.cropOf(field)) ? 1 : 0;
            case 9: return land.transfersOf(field);
            default: return NONE;
        }
    }

    public int owned(int field, int day) {
        if (!land.has(field) || day < 0 || day > LAST_DAY) {
            return NONE;
        }
        return land.ownerAsDayEnded(field, day);
    }

    public int house(int house, int what) {
        if (!isBelow(house, HOUSES)) {
            return NONE;
        }
        holding.gather(house, land, people, law);
        switch (what) {
            case 0: return holding.members;
            case 1: return holding.standards;
            case 2: return holding.allowed;
            case 3: return holding.above();
            case 4: return holding.size;
            default: return NONE;
        }
    }

    public int kept(int house, int k) {
        if (!isBelow(house, HOUSES) || k < NONE) {
            return NONE;
        }
        holding.gather(house, land, people, law);
        if (k >= holding.size || !holding.choose(land, law)) {
            return NONE;
        }
        if (k == NONE) {
            return holding.keptArea;
        }
        return holding.keeps(k) ? 1 : 0;
    }

    public int taken(int house, int k) {
        if (!isBelow(house, HOUSES) || k < 0) {
            return NONE;
        }
        holding.gather(house, land, people, law);
        // Nothing that counts is left over where the house isn't above: the best set is all of it.
        return holding.choose(land, law) ? holding.takenField(k) : NONE;
    }

    public int share(int field, int person, int year) {
        if (!land.has(field) || !people.has(person) || !isBelow(year, TILLED_YEARS)) {
            return NONE;
        }
        return tenancies.tell(field, person, year);
    }

    public int given(int field, int person, int m, int k) {
        boolean asTold = m >= 1 && m <= MOST_GIVEN && k >= NONE && k < m
                && land.hasRow(field, m) && people.hasRow(person, m);
        if (!asTold) {
            return NONE;
        }
        giving.weigh(field, person, m, land, people);
        return k == NONE ? giving.leastSum() : person + giving.choice(k);
    }

    public int rings(int person, int m, int k) {
        if (k < NONE || k >= m || !ringsClose(person, m)) {
            return NONE;
        }
        return k == NONE ? rings.closed : rings.fieldFor(k);
    }

    public int swap(int person, int m) {
        if (!ringsClose(person, m)) {
            return NONE;
        }
        int changes = rings.changes();
        if (changes > land.transfersLeft()) {
            return NONE;
        }
        for (int field = 0; field < land.size; field++) {
            int winner = rings.winnerOf(field);
            if (winner != NONE) {
                land.move(field, person + winner);
            }
        }
        return changes;
    }

    public int sell(int field, int buyer) {
        if (!land.has(field) || !people.has(buyer) || saleCount >= MOST_SALES) {
            return NONE;
        }
        int owed = law.price * land.standardOf(field, law);
        sales[saleCount] = new Sale(field, buyer, owed, law.years);
        saleCount++;
        return saleCount - 1;
    }

    public int year(int sale, boolean good) {
        Sale agreed = saleNumbered(sale);
        return agreed == null ? NONE : agreed.pass(good);
    }

    public int sale(int sale, int what) {
        Sale agreed = saleNumbered(sale);
        if (agreed == null) {
            return NONE;
        }
        switch (what) {
            case 0: return agreed.soldField;
            case 1: return agreed.buyer;
            case 2: return agreed.owed;
            case 3: return agreed.paid;
            case 4: return agreed.partsLeft;
            case 5: return agreed.yearsPutOff;
            default: return NONE;
        }
    }

    public int count(int what) {
        switch (what) {
            case 0: return land.today;
            case 1: return people.size;
            case 2: return land.size;
            case 3: return land.transfers;
            case 4: return law.statements;
            case 5: return saleCount;
            case 6: return tape.length;
            case 7: return people.pairs;
            default: return NONE;
        }
    }

    private boolean ringsClose(int person, int m) {
        if (m < LEAST_IN_RINGS || m > MOST_IN_RINGS || !people.hasRow(person, m)) {
            return false;
        }
        return rings.close(person, m, land, people);
    }

    private Sale saleNumbered(int number) {
        return isBelow(number, saleCount) ? sales[number] : null;
    }

    private static boolean isBelow(int number, int bound) {
        return number >= 0 && number < bound;
    }

    /** Persons with their houses and homes, and who is akin to whom. */
    private static final class People {
        private final int[] houses = new int[MOST_PERSONS];
        private final int[] homes = new int[MOST_PERSONS];
        // Bit b of the a-th row: a and b are akin.
        private final long[] kin = new long[MOST_PERSONS];
        private int size;
        private int pairs;

        boolean has(int number) {
            return isBelow(number, size);
        }

        boolean hasRow(int first, int length) {
            return has(first) && length <= size - first;
        }

        int houseOf(int number) {
            return has(number) ? houses[number] : NONE;
        }

        int homeOf(int number) {
            return has(number) ? homes[number] : 0;
        }

        int add(int house, int home) {
            if (size >= MOST_PERSONS) {
                return NONE;
            }
            houses[size] = house;
            homes[size] = home;
            size++;
            return size - 1;
        }

        boolean bind(int a, int b) {
            if (!has(a) || !has(b) || a == b || areKin(a, b)) {
                return false;
            }
            kin[a] |= 1L << b;
            kin[b] |= 1L << a;
            pairs++;
            return true;
        }

        boolean areKin(int a, int b) {
            return has(a) && has(b) && (kin[a] >> b & 1L) == 1L;
        }

        boolean areOfOneFamily(int a, int b) {
            return houseOf(a) == houseOf(b) || areKin(a, b);
        }

        int membersOf(int house) {
            int members = 0;
            for (int i = 0; i < size; i++) {
                if (houses[i] == house) {
                    members++;
                }
            }
            return members;
        }
    }

    /** Fields, and the transfers of them in the order in which they were told. */
    private static final class Land {
        private final int[] places = new int[MOST_FIELDS];
        private final int[] areas = new int[MOST_FIELDS];
        private final int[] soils = new int[MOST_FIELDS];
        private final int[] crops = new int[MOST_FIELDS];
        private final int[] firstOwners = new int[MOST_FIELDS];
        private final int[] owners = new int[MOST_FIELDS];
        private int size;
        private final int[] movedFields = new int[MOST_TRANSFERS];
        private final int[] receivers = new int[MOST_TRANSFERS];
        private final int[] days = new int[MOST_TRANSFERS];
        private int transfers;
        private int today;

        boolean has(int number) {
            return isBelow(number, size);
        }

        boolean hasRow(int first, int length) {
            return has(first) && length <= size - first;
        }

        int placeOf(int number) {
            return has(number) ? places[number] : 0;
        }

        int areaOf(int number) {
            return has(number) ? areas[number] : 0;
        }

        int soilOf(int number) {
            return has(number) ? soils[number] : 0;
        }

        int cropOf(int number) {
            return has(number) ? crops[number] : 0;
        }

        int ownerOf(int number) {
            return has(number) ? owners[number] : NONE;
        }

        int standardOf(int number, Law law) {
            return areaOf(number) * law.soilIs(soilOf(number)) / SOIL_UNIT;
        }

        int distance(int number, int home) {
            return Math.abs(placeOf(number) - home);
        }

        int transfersLeft() {
            return MOST_TRANSFERS - transfers;
        }

        int add(int place, int area, int soil, int crop, int owner) {
            if (size >= MOST_FIELDS) {
                return NONE;
            }
            places[size] = place;
            areas[size] = area;
            soils[size] = soil;
            crops[size] = crop;
            firstOwners[size] = owner;
            owners[size] = owner;
            size++;
            return size - 1;
        }

        void move(int number, int to) {
            if (!has(number) || transfers >= MOST_TRANSFERS) {
                return;
            }
            movedFields[transfers] = number;
            receivers[transfers] = to;
            days[transfers] = today;
            transfers++;
            owners[number] = to;
        }

        int transfersOf(int number) {
            int found = 0;
            for (int i = 0; i < transfers; i++) {
                if (movedFields[i] == number) {
                    found++;
                }
            }
            return found;
        }

        int ownerAsDayEnded(int number, int day) {
            int owner = has(number) ? firstOwners[number] : NONE;
            for (int i = 0; i < transfers && days[i] <= day; i++) {
                if (movedFields[i] == number) {
                    owner = receivers[i];
                }
            }
            return owner;
        }

        int firstFieldOf(int person) {
            for (int i = 0; i < size; i++) {
                if (owners[i] == person) {
                    return i;
                }
            }
            return NONE;
        }
    }

    /** What an act rules; a new one rules what holds without a text. */
    private static final class Law {
        private final int[] soilValues = new int[SOILS];
        private int ceiling;
        private int family;
        private int lastFreeDay;
        private int exemptCrops;
        private int price;
        private int years;
        private int shares;
        private int statements;

        Law() {
            clear();
        }

        private void clear() {
            Arrays.fill(soilValues, SOIL_UNIT);
            ceiling = 100;
            family = 0;
            lastFreeDay = LAST_DAY;
            exemptCrops = 0;
            price = 1;
            years = 10;
            shares = 2;
            statements = 0;
        }

        private void rule(int kind, int soil, int value) {
            switch (kind) {
                case CEILING: ceiling = value; break;
                case FAMILY: family = value; break;
                case DAY: lastFreeDay = value; break;
                case EXEMPT: exemptCrop(value); break;
                case SOIL: setSoil(soil, value); break;
                case PRICE: price = value; break;
                case YEARS: years = value; break;
                case SHARES: shares = value; break;
                default: break;
            }
            statements++;
        }

        private void exemptCrop(int crop) {
            if (isBelow(crop, CROPS)) {
                exemptCrops |= 1 << crop;
            }
        }

        private void setSoil(int soil, int value) {
            if (isBelow(soil, SOILS)) {
                soilValues[soil] = value;
            }
        }

        int soilIs(int soil) {
            return isBelow(soil, SOILS) ? soilValues[soil] : 0;
        }

        boolean exempts(int crop) {
            return isBelow(crop, CROPS) && (exemptCrops >> crop & 1) == 1;
        }

        int allows(int members) {
            return ceiling + family * Math.max(0, members - PERSONS_WITHOUT_FAMILY);
        }
    }

    /** The bytes that were fed and not yet made an act. */
    private static final class Tape {
        private final byte[] bytes = new byte[MOST_BYTES];
        private int length;

        int room() {
            return MOST_BYTES - length;
        }

        void append(int number) {
            for (int shift = 24; shift >= 0 && length < MOST_BYTES; shift -= 8) {
                bytes[length] = (byte) (number >> shift);
                length++;
            }
        }
    }

    /** Reads the text of an act into a law, or tells where the text stops being one. */
    private static final class Reader {
        private final byte[] text;
        private int length;
        private int tokenStart;
        private int tokenEnd;
        private int fault = NONE;

        Reader(byte[] text) {
            this.text = text;
        }

        boolean readAct(int n, Law into) {
            length = Math.min(n, text.length);
            tokenEnd = 0;
            fault = NONE;
            into.clear();
            for (int i = 0; i <= MOST_STATEMENTS; i++) {
                nextToken();
                if (tokenStart >= length) {
                    return true;
                }
                if (i == MOST_STATEMENTS || !readStatement(into)) {
                    // Whatever is refused, it is the latest token, or the end where one should be.
                    fault = tokenStart;
                    return false;
                }
            }
            return false;
        }

        private boolean readStatement(Law into) {
            int kind = keyword();
            if (kind == NONE) {
                return false;
            }
            int soil = 0;
            if (kind == SOIL) {
                nextToken();
                soil = number(0, SOILS - 1);
                if (soil == NONE) {
                    return false;
                }
                nextToken();
                if (!spells("is")) {
                    return false;
                }
            }
            nextToken();
            int value = kind == YEARS ? number(1, MOST_YEARS) : number(0, MOST_NUMBER);
            if (value == NONE) {
                return false;
            }
            nextToken();
            if (!spells(";")) {
                return false;
            }
            into.rule(kind, soil, value);
            return true;
        }

        /** Goes to the next token; an empty one stands for the end, or for a byte that begins none. */
        private void nextToken() {
            int at = tokenEnd;
            while (at < length && isBlank(text[at])) {
                at++;
            }
            tokenStart = at;
            if (at < length && text[at] == ';') {
                at++;
            } else if (at < length && isLetter(text[at])) {
                while (at < length && isLetter(text[at])) {
                    at++;
                }
            } else {
                while (at < length && isDigit(text[at])) {
                    at++;
                }
            }
            tokenEnd = at;
        }

        private int keyword() {
            if (spells("ceiling")) {
                return CEILING;
            }
            if (spells("family")) {
                return FAMILY;
            }
            if (spells("day")) {
                return DAY;
            }
            if (spells("exempt")) {
                return EXEMPT;
            }
            if (spells("soil")) {
                return SOIL;
            }
            if (spells("price")) {
                return PRICE;
            }
            if (spells("years")) {
                return YEARS;
            }
            return spells("shares") ? SHARES : NONE;
        }

        private boolean spells(String word) {
            if (tokenEnd - tokenStart != word.length() || tokenEnd > length) {
                return false;
            }
            for (int i = 0; i < word.length(); i++) {
                if (text[tokenStart + i] != word.charAt(i)) {
                    return false;
                }
            }
            return true;
        }

        private int number(int least, int most) {
            int digits = tokenEnd - tokenStart;
            if (digits < 1 || digits > MOST_DIGITS || tokenEnd > length) {
                return NONE;
            }
            int value = 0;
            for (int i = tokenStart; i < tokenEnd; i++) {
                if (!isDigit(text[i])) {
                    return NONE;
                }
                value = value * 10 + (text[i] - '0');
            }
            return value >= least && value <= most ? value : NONE;
        }

        private static boolean isBlank(byte sign) {
            return sign == 32 || sign == 10;
        }

        private static boolean isLetter(byte sign) {
            return sign >= 'a' && sign <= 'z';
        }

        private static boolean isDigit(byte sign) {
            return sign >= '0' && sign <= '9';
        }
    }

    /** What counts as a house's land under a law, and which of it the house keeps. */
    private static final class Holding {
        private final int[] countedOwners = new int[MOST_FIELDS];
        private final int[] counting = new int[MOST_FIELDS];
        private final int[] standardSteps = new int[MOST_WEIGHED];
        private final int[] areaSteps = new int[MOST_WEIGHED];
        private int size;
        private int members;
        private int standards;
        private int allowed;
        private int keptSet;
        private int keptArea;

        int countedOwner(int field, Land land, People people, Law law) {
            countOwners(land, people, law);
            return isBelow(field, land.size) ? countedOwners[field] : NONE;
        }

        private void countOwners(Land land, People people, Law law) {
            System.arraycopy(land.firstOwners, 0, countedOwners, 0, land.size);
            for (int i = 0; i < land.transfers; i++) {
                int field = land.movedFields[i];
                int to = land.receivers[i];
                if (!isBelow(field, land.size)) {
                    continue;
                }
                boolean free = land.days[i] <= law.lastFreeDay;
                if (free || !people.areOfOneFamily(to, countedOwners[field])) {
                    countedOwners[field] = to;
                }
            }
        }

        void gather(int house, Land land, People people, Law law) {
            countOwners(land, people, law);
            size = 0;
            standards = 0;
            for (int i = 0; i < land.size; i++) {
                if (people.houseOf(countedOwners[i]) == house && !law.exempts(land.crops[i])) {
                    counting[size] = i;
                    size++;
                    standards += land.standardOf(i, law);
                }
            }
            members = people.membersOf(house);
            allowed = law.allows(members);
        }

        int above() {
            return Math.max(0, standards - allowed);
        }

        /** Chooses what is kept of what was gathered; false if that is too much to weigh. */
        boolean choose(Land land, Law law) {
            if (size > MOST_WEIGHED) {
                return false;
            }
            prepareSteps(land, law);
            keptSet = 0;
            keptArea = 0;
            int standard = 0;
            int area = 0;
            int sets = 1 << size;
            // The sets come in rising order, so of equal ones the least stays.
            for (int set = 1; set < sets; set++) {
                int entering = Integer.numberOfTrailingZeros(set);
                if (entering >= MOST_WEIGHED) {
                    return false;
                }
                standard += standardSteps[entering];
                area += areaSteps[entering];
                if (standard <= allowed && area > keptArea) {
                    keptSet = set;
                    keptArea = area;
                }
            }
            return true;
        }

        /** From a set to the next higher one a field comes in and all before it go out. */
        private void prepareSteps(Land land, Law law) {
            int standardBefore = 0;
            int areaBefore = 0;
            for (int i = 0; i < size && i < MOST_WEIGHED; i++) {
                int standard = land.standardOf(counting[i], law);
                int area = land.areaOf(counting[i]);
                standardSteps[i] = standard - standardBefore;
                areaSteps[i] = area - areaBefore;
                standardBefore += standard;
                areaBefore += area;
            }
        }

        boolean keeps(int k) {
            return isBelow(k, size) && (keptSet >> k & 1) == 1;
        }

        int takenField(int k) {
            int before = 0;
            for (int i = 0; i < size; i++) {
                if (keeps(i)) {
                    continue;
                }
                if (before == k) {
                    return counting[i];
                }
                before++;
            }
            return NONE;
        }
    }

    /** In which years a person tilled a field for a share. */
    private static final class Tenancies {
        private final int[] fields = new int[MOST_PAIRS];
        private final int[] persons = new int[MOST_PAIRS];
        // Bit y: a share was told for the year y.
        private final int[] yearSets = new int[MOST_PAIRS];
        private int size;

        int tell(int field, int person, int year) {
            int pair = pairOf(field, person);
            if (pair >= MOST_PAIRS) {
                return NONE;
            }
            if (pair == size) {
                fields[pair] = field;
                persons[pair] = person;
                yearSets[pair] = 0;
                size++;
            }
            yearSets[pair] |= 1 << year;
            return Integer.bitCount(yearSets[pair]);
        }

        /** Where the pair stands, or where it would be added. */
        private int pairOf(int field, int person) {
            for (int i = 0; i < size; i++) {
                if (fields[i] == field && persons[i] == person) {
                    return i;
                }
            }
            return size;
        }

        int tenantOf(int field, int owner, int leastYears) {
            int tenant = NONE;
            int mostYears = 0;
            for (int i = 0; i < size; i++) {
                int years = Integer.bitCount(yearSets[i]);
                if (fields[i] != field || persons[i] == owner || years < leastYears || years < mostYears) {
                    continue;
                }
                tenant = years == mostYears ? NONE : persons[i];
                mostYears = years;
            }
            return tenant;
        }
    }

    /** Gives a row of fields to as many persons, as near to their homes as can be. */
    private static final class Giving {
        // For a set of the persons: the least sum if they get as many of the last fields.
        private final int[] leastSums = new int[1 << MOST_GIVEN];
        private final int[][] distances = new int[MOST_GIVEN][MOST_GIVEN];
        private int size;

        void weigh(int field, int person, int m, Land land, People people) {
            size = Math.max(0, Math.min(m, MOST_GIVEN));
            for (int i = 0; i < size; i++) {
                for (int j = 0; j < size; j++) {
                    distances[i][j] = land.distance(field + i, people.homeOf(person + j));
                }
            }
            leastSums[0] = 0;
            for (int set = 1; set < 1 << size; set++) {
                leastSums[set] = sumWith(set, nearest(set));
            }
        }

        int leastSum() {
            return leastSums[(1 << size) - 1];
        }

        /** Which of the persons gets the k-th field. */
        int choice(int k) {
            int set = (1 << size) - 1;
            for (int i = 0; i < k && i < size; i++) {
                set &= ~(1 << nearest(set));
            }
            return nearest(set);
        }

        /** Who of a set gets the first of its fields; of several the first, as the ways are ordered. */
        private int nearest(int set) {
            int best = 0;
            int bestSum = Integer.MAX_VALUE;
            for (int i = 0; i < size; i++) {
                if ((set >> i & 1) == 1 && sumWith(set, i) < bestSum) {
                    best = i;
                    bestSum = sumWith(set, i);
                }
            }
            return best;
        }

        private int sumWith(int set, int first) {
            int field = size - Integer.bitCount(set);
            if (!isBelow(field, MOST_GIVEN) || !isBelow(first, MOST_GIVEN)) {
                return 0;
            }
            return distances[field][first] + leastSums[set & ~(1 << first)];
        }
    }

    /** Swaps in rings among a row of persons, each with one field. */
    private static final class Rings {
        private final int[] homes = new int[MOST_IN_RINGS];
        private final int[] fieldsHad = new int[MOST_IN_RINGS];
        private final int[] placesHad = new int[MOST_IN_RINGS];
        private final int[] fieldsGot = new int[MOST_IN_RINGS];
        private final int[] pointedAt = new int[MOST_IN_RINGS];
        private int size;
        private int closed;

        /** False if one of them has no field. */
        boolean close(int person, int m, Land land, People people) {
            size = Math.max(0, Math.min(m, MOST_IN_RINGS));
            closed = 0;
            for (int i = 0; i < size; i++) {
                homes[i] = people.homeOf(person + i);
                fieldsHad[i] = land.firstFieldOf(person + i);
                if (fieldsHad[i] == NONE) {
                    return false;
                }
                placesHad[i] = land.placeOf(fieldsHad[i]);
                fieldsGot[i] = NONE;
                pointedAt[i] = i;
            }
            // Each round closes at least one ring, so there are no more rounds than persons.
            for (int round = 0; round < size; round++) {
                point();
                leaveInRings();
            }
            return true;
        }

        private void point() {
            for (int i = 0; i < size; i++) {
                if (fieldsGot[i] == NONE) {
                    pointedAt[i] = holderOfNearest(i);
                }
            }
        }

        private int holderOfNearest(int i) {
            int best = i;
            for (int j = 0; j < size; j++) {
                int nearer = Math.abs(placesHad[best] - homes[i]) - Math.abs(placesHad[j] - homes[i]);
                boolean isWantedMore = nearer > 0 || nearer == 0 && fieldsHad[j] < fieldsHad[best];
                if (fieldsGot[j] == NONE && isWantedMore) {
                    best = j;
                }
            }
            return best;
        }

        private void leaveInRings() {
            for (int i = 0; i < size; i++) {
                int least = fieldsGot[i] == NONE ? leastInRing(i) : NONE;
                if (least == NONE) {
                    continue;
                }
                fieldsGot[i] = fieldsHad[pointedAt[i]];
                if (least == i) {
                    closed++;
                }
            }
        }

        /** The least of the ring that one is in; NONE if the pointing doesn't lead back. */
        private int leastInRing(int i) {
            int least = i;
            int at = pointedAt[i];
            for (int step = 0; step < size && at != i; step++) {
                least = Math.min(least, at);
                at = pointedAt[at];
            }
            return at == i ? least : NONE;
        }

        int fieldFor(int k) {
            return isBelow(k, size) ? fieldsGot[k] : NONE;
        }

        int changes() {
            int changes = 0;
            for (int i = 0; i < size; i++) {
                if (fieldsGot[i] != fieldsHad[i]) {
                    changes++;
                }
            }
            return changes;
        }

        /** Who gets a field from another; NONE if it doesn't change. */
        int winnerOf(int field) {
            for (int i = 0; i < size; i++) {
                if (fieldsGot[i] == field && fieldsHad[i] != field) {
                    return i;
                }
            }
            return NONE;
        }
    }

    /** A field sold: what is owed in parts, all alike but for one, the rest. */
    private static final class Sale {
        private final int soldField;
        private final int buyer;
        private final int owed;
        private final int part;
        private final int rest;
        private int paid;
        private int partsLeft;
        // How many parts come before the rest; below 0 once it is paid.
        private int partsBeforeRest;
        private int yearsPutOff;

        Sale(int soldField, int buyer, int owed, int years) {
            this.soldField = soldField;
            this.buyer = buyer;
            this.owed = owed;
            partsLeft = Math.max(1, years);
            partsBeforeRest = partsLeft - 1;
            part = owed / partsLeft;
            rest = owed - part * partsBeforeRest;
        }

        int pass(boolean good) {
            if (partsLeft == 0) {
                return NONE;
            }
            boolean restIsDue = partsBeforeRest == 0;
            partsBeforeRest--;
            if (!good) {
                yearsPutOff++;
                if (restIsDue) {
                    partsBeforeRest = partsLeft - 1;
                }
                return 0;
            }
            int due = restIsDue ? rest : part;
            partsLeft--;
            paid += due;
            return due;
        }
    }
}
