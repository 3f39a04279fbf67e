import java.util.Arrays;

/** A rostering desk: plans the shifts of up to eight people week by week; see README.md. */
public final class CoverSheet {
    public static final int NONE = -1;
    public static final int OFF = 0, EARLY = 1, LATE = 2, NIGHT = 3;

    private static final int DAYS = 7;
    private static final int FIRST_WEEKEND_DAY = 5;
    private static final int ENTRIES = 4;
    private static final int MOST_PEOPLE = 8;
    private static final int MOST_NEEDED = 5;
    private static final int MOST_SHIFTS = 7;
    private static final int MOST_RUN = 14;
    private static final int MOST_ROUNDS = 10;
    private static final int ALL_SKILLS = 1 << EARLY | 1 << LATE | 1 << NIGHT;

    private final Person[] team;
    private final Needs needs;
    private final Rules rules;
    private final DayTable table;
    private final Counting counting;
    private final Pricing pricing;
    private int teamSize;
    private int lastRounds;
    private int closedWeeks;

    public CoverSheet() {
        team = new Person[MOST_PEOPLE];
        needs = new Needs();
        rules = new Rules();
        table = new DayTable();
        counting = new Counting();
        pricing = new Pricing();
    }

    // ---- setting up

    public int addPerson(int skills, int most) throws IllegalArgumentException, IllegalStateException {
        if (skills <= 0 || (skills & ~ALL_SKILLS) != 0) {
            throw new IllegalArgumentException("skills is no set of kinds");
        }
        if (most < 0 || most > MOST_SHIFTS) {
            throw new IllegalArgumentException("most is out of range");
        }
        if (teamSize < 0 || teamSize >= team.length) {
            throw new IllegalStateException("the desk is full");
        }
        team[teamSize] = new Person(skills, most);
        return teamSize++;
    }

    public int setNeed(int day, int kind, int people) throws IndexOutOfBoundsException, IllegalArgumentException {
        if (!isDay(day) || !isKind(kind)) {
            throw new IndexOutOfBoundsException("no such day or kind");
        }
        if (people < 0 || people > MOST_NEEDED) {
            throw new IllegalArgumentException("people is out of range");
        }
        int before = needs.of(day, kind);
        needs.put(day, kind, people);
        return before;
    }

    public boolean forbid(int kind, int next, boolean isForbidden) throws IndexOutOfBoundsException {
        if (!isKind(kind) || !isKind(next)) {
            throw new IndexOutOfBoundsException("no such kind or next");
        }
        return rules.changeFollowing(kind, next, isForbidden);
    }

    public int setRun(int days) throws IllegalArgumentException {
        if (days < 1 || days > MOST_RUN) {
            throw new IllegalArgumentException("days is out of range");
        }
        int before = rules.longestRun;
        rules.longestRun = days;
        return before;
    }

    public boolean wish(int person, int day, boolean isOff) throws IndexOutOfBoundsException {
        Person who = personAt(person);
        if (who == null || !isDay(day)) {
            throw new IndexOutOfBoundsException("no such person or day");
        }
        return who.changeWish(day, isOff);
    }

    public int fix(int person, int day, int entry) throws IndexOutOfBoundsException, IllegalArgumentException {
        Person who = personAt(person);
        if (who == null || !isDay(day)) {
            throw new IndexOutOfBoundsException("no such person or day");
        }
        if (entry != NONE && !isEntry(entry)) {
            throw new IllegalArgumentException("neither an entry nor NONE");
        }
        int before = who.fixedAt(day);
        who.changeFixed(day, entry);
        return before;
    }

    // ---- planning

    public int plan() {
        for (Person who : team) {
            if (who != null) {
                who.week = Week.ALL_OFF;
            }
        }
        boolean isChanged = true;
        for (int round = 1; isChanged && round <= MOST_ROUNDS; round++) {
            isChanged = planRound();
            lastRounds = round;
        }
        return allGaps();
    }

    public int rounds() {
        return lastRounds;
    }

    public int set(int person, int day, int entry)
            throws IndexOutOfBoundsException, IllegalArgumentException, IllegalStateException {
        Person who = personAt(person);
        if (who == null || !isDay(day)) {
            throw new IndexOutOfBoundsException("no such person or day");
        }
        if (!isEntry(entry)) {
            throw new IllegalArgumentException("no such entry");
        }
        int changed = Week.with(who.week, day, entry);
        if (!who.canHave(changed, rules)) {
            throw new IllegalStateException("the week would not be feasible");
        }
        int before = Week.at(who.week, day);
        who.week = changed;
        return before;
    }

    public int swap(int person, int other, int day) throws IndexOutOfBoundsException, IllegalStateException {
        Person one = personAt(person);
        Person two = personAt(other);
        if (one == null || two == null || !isDay(day)) {
            throw new IndexOutOfBoundsException("no such person, other or day");
        }
        if (one == two || !couldSwap(one, two, day)) {
            throw new IllegalStateException("the same person, or a week would not be feasible");
        }
        int entryOfOne = Week.at(one.week, day);
        one.week = Week.with(one.week, day, Week.at(two.week, day));
        two.week = Week.with(two.week, day, entryOfOne);
        return one.brokenWishes() + two.brokenWishes();
    }

    public int closeWeek() {
        for (Person who : team) {
            if (who != null) {
                who.noteWeek();
            }
        }
        closedWeeks++;
        return closedWeeks;
    }

    // ---- the roster

    public int people() {
        return teamSize;
    }

    public int entry(int person, int day) throws IndexOutOfBoundsException {
        Person who = personAt(person);
        if (who == null || !isDay(day)) {
            throw new IndexOutOfBoundsException("no such person or day");
        }
        return Week.at(who.week, day);
    }

    public int gaps() {
        return allGaps();
    }

    public int gap(int day, int kind) throws IndexOutOfBoundsException {
        if (!isDay(day) || !isKind(kind)) {
            throw new IndexOutOfBoundsException("no such day or kind");
        }
        return gapWithout(null, day, kind);
    }

    public int shifts(int person) throws IndexOutOfBoundsException {
        Person who = personAt(person);
        if (who == null) {
            throw new IndexOutOfBoundsException("no such person");
        }
        return Week.shiftsFrom(who.week, 0);
    }

    public int weekends(int person) throws IndexOutOfBoundsException {
        Person who = personAt(person);
        if (who == null) {
            throw new IndexOutOfBoundsException("no such person");
        }
        return who.weekendShifts;
    }

    public int broken(int person) throws IndexOutOfBoundsException {
        Person who = personAt(person);
        if (who == null) {
            throw new IndexOutOfBoundsException("no such person");
        }
        return who.brokenWishes();
    }

    public int runBefore(int person) throws IndexOutOfBoundsException {
        Person who = personAt(person);
        if (who == null) {
            throw new IndexOutOfBoundsException("no such person");
        }
        return who.daysInARow;
    }

    // ---- what is possible

    public boolean isFeasible(int person) throws IndexOutOfBoundsException {
        Person who = personAt(person);
        if (who == null) {
            throw new IndexOutOfBoundsException("no such person");
        }
        return who.canHave(who.week, rules);
    }

    public int weeks(int person) throws IndexOutOfBoundsException {
        Person who = personAt(person);
        if (who == null) {
            throw new IndexOutOfBoundsException("no such person");
        }
        int count = 0;
        for (int week = 0; week < Week.COUNT; week++) {
            if (who.canHave(week, rules)) {
                count++;
            }
        }
        return count;
    }

    public int weeksByDays(int person) throws IndexOutOfBoundsException {
        Person who = personAt(person);
        if (who == null) {
            throw new IndexOutOfBoundsException("no such person");
        }
        return (int) table.through(who, rules, counting);
    }

    public int couldTake(int day, int kind) throws IndexOutOfBoundsException {
        if (!isDay(day) || !isKind(kind)) {
            throw new IndexOutOfBoundsException("no such day or kind");
        }
        int takers = 0;
        for (int number = 0; number < teamSize; number++) {
            Person who = personAt(number);
            if (who != null && Week.at(who.week, day) == OFF
                    && who.canHave(Week.with(who.week, day, kind), rules)) {
                takers |= 1 << number;
            }
        }
        return takers;
    }

    public int swapFor(int person, int day) throws IndexOutOfBoundsException {
        Person who = personAt(person);
        if (who == null || !isDay(day)) {
            throw new IndexOutOfBoundsException("no such person or day");
        }
        int found = NONE;
        int fewest = MOST_SHIFTS + 1;
        for (int number = 0; number < teamSize; number++) {
            Person other = personAt(number);
            if (other == null || Week.at(other.week, day) == Week.at(who.week, day)) {
                continue;
            }
            int shifts = Week.shiftsFrom(other.week, 0);
            if (shifts < fewest && couldSwap(who, other, day)) {
                found = number;
                fewest = shifts;
            }
        }
        return found;
    }

    public int bound() {
        int least = 0;
        for (int day = 0; day < DAYS; day++) {
            least += leastGapsOf(day);
        }
        return least;
    }

    // ---- inside

    private static boolean isDay(int day) {
        return day >= 0 && day < DAYS;
    }

    private static boolean isEntry(int entry) {
        return entry >= OFF && entry <= NIGHT;
    }

    private static boolean isKind(int kind) {
        return kind >= EARLY && kind <= NIGHT;
    }

    private Person personAt(int number) {
        return number < 0 || number >= team.length ? null : team[number];
    }

    private boolean couldSwap(Person one, Person two, int day) {
        int weekOfOne = Week.with(one.week, day, Week.at(two.week, day));
        int weekOfTwo = Week.with(two.week, day, Week.at(one.week, day));
        return one.canHave(weekOfOne, rules) && two.canHave(weekOfTwo, rules);
    }

    private int allGaps() {
        int sum = 0;
        for (int day = 0; day < DAYS; day++) {
            for (int kind = EARLY; kind <= NIGHT; kind++) {
                sum += gapWithout(null, day, kind);
            }
        }
        return sum;
    }

    /** The gap that is left when one person is not looked at; with null everybody is. */
    private int gapWithout(Person without, int day, int kind) {
        int gap = needs.of(day, kind);
        for (Person who : team) {
            if (who != null && who != without && Week.at(who.week, day) == kind) {
                gap--;
            }
        }
        return Math.max(0, gap);
    }

    // By Hall's theorem, the places of a day that stay empty at best are the most that any set of
    // kinds needs above the people who have one of these kinds among their skills.
    private int leastGapsOf(int day) {
        int least = 0;
        for (int kinds = 0; kinds <= ALL_SKILLS; kinds += 2) {
            int lacking = -peopleWithOneOf(kinds);
            for (int kind = EARLY; kind <= NIGHT; kind++) {
                if ((kinds & 1 << kind) != 0) {
                    lacking += needs.of(day, kind);
                }
            }
            least = Math.max(least, lacking);
        }
        return least;
    }

    private int peopleWithOneOf(int kinds) {
        int count = 0;
        for (Person who : team) {
            if (who != null && (who.skills & kinds) != 0) {
                count++;
            }
        }
        return count;
    }

    /** Lets everybody choose once; tells whether a week has become another one. */
    private boolean planRound() {
        boolean isChanged = false;
        for (Person who : team) {
            if (who == null) {
                continue;
            }
            int chosen = chosenWeek(who);
            isChanged |= chosen != who.week;
            who.week = chosen;
        }
        return isChanged;
    }

    private int chosenWeek(Person who) {
        for (int day = 0; day < DAYS; day++) {
            for (int entry = OFF; entry <= NIGHT; entry++) {
                boolean isFilling = entry != OFF && gapWithout(who, day, entry) > 0;
                pricing.put(day, entry, Pricing.priceOf(who, day, entry, isFilling));
            }
        }
        return Pricing.weekOf(table.through(who, rules, pricing));
    }

    // A week is one number, two bits for an entry, the first day highest: so the order of weeks is
    // the order of these numbers, and a week can be changed and tried without an array.
    private static final class Week {
        private static final int ALL_OFF = 0;
        private static final int COUNT = 1 << 2 * DAYS;

        private static int placeOf(int day) {
            return 2 * (DAYS - 1 - day);
        }

        static int at(int week, int day) {
            return week >> placeOf(day) & 3;
        }

        static int with(int week, int day, int entry) {
            int place = placeOf(day);
            return week & ~(3 << place) | entry << place;
        }

        static int shiftsFrom(int week, int firstDay) {
            int count = 0;
            for (int day = firstDay; day < DAYS; day++) {
                if (at(week, day) != OFF) {
                    count++;
                }
            }
            return count;
        }
    }

    /** How many people are needed for each day and kind. */
    private static final class Needs {
        private final int[] numbers = new int[DAYS * ENTRIES];

        int of(int day, int kind) {
            int place = day * ENTRIES + kind;
            return place < 0 || place >= numbers.length ? 0 : numbers[place];
        }

        void put(int day, int kind, int people) {
            int place = day * ENTRIES + kind;
            if (place >= 0 && place < numbers.length) {
                numbers[place] = people;
            }
        }
    }

    /** Which kinds may not follow each other, and how many days in a row may be worked. */
    private static final class Rules {
        private int forbidden = pairOf(LATE, EARLY) | pairOf(NIGHT, EARLY) | pairOf(NIGHT, LATE);
        private int longestRun = 5;

        private static int pairOf(int kind, int next) {
            return 1 << kind * ENTRIES + next;
        }

        boolean changeFollowing(int kind, int next, boolean isForbidden) {
            int before = forbidden;
            forbidden = isForbidden ? before | pairOf(kind, next) : before & ~pairOf(kind, next);
            return forbidden != before;
        }

        // A pair with OFF in it is never forbidden, so the entry before may be OFF as well.
        boolean allow(int before, int run, int entry) {
            return entry == OFF || run < longestRun && (forbidden & pairOf(before, entry)) == 0;
        }
    }

    /** One who is planned: this week, what was wished and fixed for it, and what closed weeks left. */
    private static final class Person {
        private final int skills;
        private final int most;
        private int week;
        private int fixed;
        private int wishes;
        private int lastEntry;
        private int daysInARow;
        private int weekendShifts;

        private Person(int skills, int most) {
            this.skills = skills;
            this.most = most;
        }

        boolean changeWish(int day, boolean isOff) {
            int before = wishes;
            wishes = isOff ? before | 1 << day : before & ~(1 << day);
            return wishes != before;
        }

        boolean breaksWish(int day, int entry) {
            return entry != OFF && (wishes & 1 << day) != 0;
        }

        int brokenWishes() {
            int count = 0;
            for (int day = 0; day < DAYS; day++) {
                if (breaksWish(day, Week.at(week, day))) {
                    count++;
                }
            }
            return count;
        }

        // What is fixed for a day stands in four bits as the entry and one more; NONE is -1, so 0 is none.
        int fixedAt(int day) {
            return (fixed >> ENTRIES * day & 15) - 1;
        }

        void changeFixed(int day, int entry) {
            int place = ENTRIES * day;
            fixed = fixed & ~(15 << place) | entry + 1 << place;
        }

        /** Tells whether an entry is left open by the skills and by what is fixed. */
        boolean mayHave(int day, int entry) {
            int due = fixedAt(day);
            return (due == NONE || due == entry) && (entry == OFF || (skills & 1 << entry) != 0);
        }

        /** Tells whether a week is feasible. */
        boolean canHave(int tried, Rules rules) {
            int before = lastEntry;
            int run = daysInARow;
            for (int day = 0; day < DAYS; day++) {
                int entry = Week.at(tried, day);
                if (!mayHave(day, entry) || !rules.allow(before, run, entry)) {
                    return false;
                }
                before = entry;
                run = entry == OFF ? 0 : run + 1;
            }
            return Week.shiftsFrom(tried, 0) <= most;
        }

        void noteWeek() {
            for (int day = 0; day < DAYS; day++) {
                daysInARow = Week.at(week, day) == OFF ? 0 : daysInARow + 1;
            }
            lastEntry = Week.at(week, DAYS - 1);
            weekendShifts += Week.shiftsFrom(week, FIRST_WEEKEND_DAY);
            week = Week.ALL_OFF;
            wishes = 0;
            fixed = 0;
        }
    }

    /** What is asked of all feasible weeks at once: a value that grows day by day and is joined. */
    private abstract static class Measure {
        /** The value of no week at all. */
        abstract long none();

        abstract long start();

        abstract long longer(long value, int day, int entry);

        abstract long joined(long one, long other);
    }

    private static final class Counting extends Measure {
        long none() {
            return 0;
        }

        long start() {
            return 1;
        }

        long longer(long value, int day, int entry) {
            return value;
        }

        long joined(long one, long other) {
            return one + other;
        }
    }

    // The price of a week has the days that fill no gap in the highest bits, then its shifts, its
    // burden, its broken wishes, and in the lowest bits the week itself: so the cheapest week is the
    // one to be chosen. A shift fills at most one gap, so counting the days that fill none puts weeks
    // in the order of their gaps. Each part is a sum over the days that has room below the next one.
    private static final class Pricing extends Measure {
        private static final long WISH = Week.COUNT;
        private static final long BURDEN = WISH << 3;
        private static final long SHIFT = BURDEN << 32;
        private static final long UNFILLED = SHIFT << 3;
        private static final long NO_WEEK = Long.MAX_VALUE;

        private final long[] prices = new long[DAYS * ENTRIES];

        static long priceOf(Person who, int day, int entry, boolean isFilling) {
            long price = Week.with(Week.ALL_OFF, day, entry);
            if (!isFilling) {
                price += UNFILLED;
            }
            if (entry != OFF) {
                price += SHIFT;
            }
            if (entry != OFF && day >= FIRST_WEEKEND_DAY) {
                price += BURDEN * who.weekendShifts;
            }
            if (who.breaksWish(day, entry)) {
                price += WISH;
            }
            return price;
        }

        static int weekOf(long price) {
            return price == NO_WEEK ? Week.ALL_OFF : (int) (price & Week.COUNT - 1);
        }

        void put(int day, int entry, long price) {
            int place = day * ENTRIES + entry;
            if (place >= 0 && place < prices.length) {
                prices[place] = price;
            }
        }

        long none() {
            return NO_WEEK;
        }

        long start() {
            return 0;
        }

        long longer(long value, int day, int entry) {
            int place = day * ENTRIES + entry;
            return place < 0 || place >= prices.length ? NO_WEEK : value + prices[place];
        }

        long joined(long one, long other) {
            return Math.min(one, other);
        }
    }

    // Goes through all feasible weeks of a person at once, day by day: beginnings of weeks with the
    // same last entry, run and number of shifts leave the same open, so they share a place here.
    private static final class DayTable {
        private static final int RUNS = MOST_RUN + 1;
        private static final int PLACES = (MOST_SHIFTS + 1) * RUNS * ENTRIES;

        private long[] values = new long[PLACES];
        private long[] nextValues = new long[PLACES];

        private static int placeOf(int shifts, int run, int entry) {
            return (shifts * RUNS + run) * ENTRIES + entry;
        }

        long through(Person who, Rules rules, Measure measure) {
            Arrays.fill(values, measure.none());
            int first = placeOf(0, Math.min(who.daysInARow, MOST_RUN), who.lastEntry);
            if (first >= 0 && first < values.length) {
                values[first] = measure.start();
            }
            for (int day = 0; day < DAYS; day++) {
                goOn(who, rules, measure, day);
            }
            long all = measure.none();
            for (long value : values) {
                all = measure.joined(all, value);
            }
            return all;
        }

        private void goOn(Person who, Rules rules, Measure measure, int day) {
            Arrays.fill(nextValues, measure.none());
            for (int place = 0; place < values.length; place++) {
                long value = values[place];
                if (value == measure.none()) {
                    continue;
                }
                int before = place % ENTRIES;
                int run = place / ENTRIES % RUNS;
                int shifts = place / ENTRIES / RUNS;
                for (int entry = OFF; entry <= NIGHT; entry++) {
                    boolean isTooMany = entry != OFF && shifts >= who.most;
                    if (isTooMany || !who.mayHave(day, entry) || !rules.allow(before, run, entry)) {
                        continue;
                    }
                    int next = entry == OFF ? placeOf(shifts, 0, OFF) : placeOf(shifts + 1, run + 1, entry);
                    if (next >= 0 && next < nextValues.length) {
                        long longer = measure.longer(value, day, entry);
                        nextValues[next] = measure.joined(nextValues[next], longer);
                    }
                }
            }
            long[] freed = values;
            values = nextValues;
            nextValues = freed;
        }
    }
}
