import java.util.ArrayList;
import java.util.Arrays;
import java.util.List;

/** The document told once more, as plainly and as unlike the program as possible: whole weeks are tried. */
final class PlainDesk {
    static final class Human {
        int skills;
        int most;
        int[] week = new int[7];
        int[] fixed = {-1, -1, -1, -1, -1, -1, -1};
        boolean[] wishes = new boolean[7];
        List<Integer> past = new ArrayList<>();
    }

    private static int[][] allWeeks;

    final List<Human> humans = new ArrayList<>();
    final int[][] needs = new int[7][4];
    final boolean[][] forbidden = new boolean[4][4];
    int run = 5;
    int rounds = 0;
    int closed = 0;

    PlainDesk() {
        forbidden[2][1] = true;
        forbidden[3][1] = true;
        forbidden[3][2] = true;
    }

    static int[][] allWeeks() {
        if (allWeeks == null) {
            allWeeks = new int[16384][7];
            for (int number = 0; number < 16384; number++) {
                int rest = number;
                for (int day = 6; day >= 0; day--) {
                    allWeeks[number][day] = rest % 4;
                    rest /= 4;
                }
            }
        }
        return allWeeks;
    }

    static void index(boolean isRight) {
        if (!isRight) {
            throw new IndexOutOfBoundsException();
        }
    }

    static void argument(boolean isRight) {
        if (!isRight) {
            throw new IllegalArgumentException();
        }
    }

    static void state(boolean isRight) {
        if (!isRight) {
            throw new IllegalStateException();
        }
    }

    boolean isPerson(int person) {
        return person >= 0 && person < humans.size();
    }

    static boolean isDay(int day) {
        return day >= 0 && day <= 6;
    }

    static boolean isKind(int kind) {
        return kind >= 1 && kind <= 3;
    }

    int addPerson(int skills, int most) {
        argument(skills >= 2 && skills <= 14 && skills % 2 == 0 && most >= 0 && most <= 7);
        state(humans.size() < 8);
        Human human = new Human();
        human.skills = skills;
        human.most = most;
        humans.add(human);
        return humans.size() - 1;
    }

    int setNeed(int day, int kind, int people) {
        index(isDay(day) && isKind(kind));
        argument(people >= 0 && people <= 5);
        int before = needs[day][kind];
        needs[day][kind] = people;
        return before;
    }

    boolean forbid(int kind, int next, boolean isForbidden) {
        index(isKind(kind) && isKind(next));
        boolean before = forbidden[kind][next];
        forbidden[kind][next] = isForbidden;
        return before != isForbidden;
    }

    int setRun(int days) {
        argument(days >= 1 && days <= 14);
        int before = run;
        run = days;
        return before;
    }

    boolean wish(int person, int day, boolean isOff) {
        index(isPerson(person) && isDay(day));
        boolean before = humans.get(person).wishes[day];
        humans.get(person).wishes[day] = isOff;
        return before != isOff;
    }

    int fix(int person, int day, int entry) {
        index(isPerson(person) && isDay(day));
        argument(entry >= -1 && entry <= 3);
        int before = humans.get(person).fixed[day];
        humans.get(person).fixed[day] = entry;
        return before;
    }

    int plan() {
        for (Human human : humans) {
            human.week = new int[7];
        }
        rounds = 0;
        boolean isChanged;
        do {
            isChanged = false;
            rounds++;
            for (Human human : humans) {
                int[] before = human.week;
                human.week = choice(human);
                isChanged = isChanged || !Arrays.equals(before, human.week);
            }
        } while (isChanged && rounds < 10);
        return gaps();
    }

    private int[] choice(Human human) {
        int[] best = null;
        int[] bestRank = null;
        for (int[] week : allWeeks()) {
            if (!isFeasible(human, week)) {
                continue;
            }
            human.week = week;
            int weekendShifts = (week[5] > 0 ? 1 : 0) + (week[6] > 0 ? 1 : 0);
            int[] rank = {gaps(), shifts(week), weekendShifts * weekends(human), broken(human)};
            if (best == null || Arrays.compare(rank, bestRank) < 0) {
                best = week;
                bestRank = rank;
            }
        }
        return best == null ? new int[7] : best.clone();
    }

    boolean isFeasible(Human human, int[] week) {
        for (int day = 0; day < 7; day++) {
            if (human.fixed[day] != -1 && human.fixed[day] != week[day]) {
                return false;
            }
            if (week[day] > 0 && (human.skills & 1 << week[day]) == 0) {
                return false;
            }
        }
        return shifts(week) <= human.most && keepsRules(human, week);
    }

    private boolean keepsRules(Human human, int[] week) {
        int past = human.past.size();
        for (int day = 0; day < 7; day++) {
            int before = day > 0 ? week[day - 1] : past > 0 ? human.past.get(past - 1) : 0;
            if (week[day] > 0 && before > 0 && forbidden[before][week[day]]) {
                return false;
            }
            int worked = 0;
            int back = day;
            while (back >= -past && (back >= 0 ? week[back] : human.past.get(past + back)) > 0) {
                worked++;
                back--;
            }
            if (worked > run) {
                return false;
            }
        }
        return true;
    }

    static int shifts(int[] week) {
        int count = 0;
        for (int entry : week) {
            count += entry > 0 ? 1 : 0;
        }
        return count;
    }

    static int weekends(Human human) {
        int count = 0;
        for (int day = 0; day < human.past.size(); day++) {
            count += day % 7 >= 5 && human.past.get(day) > 0 ? 1 : 0;
        }
        return count;
    }

    static int broken(Human human) {
        int count = 0;
        for (int day = 0; day < 7; day++) {
            count += human.wishes[day] && human.week[day] > 0 ? 1 : 0;
        }
        return count;
    }

    int set(int person, int day, int entry) {
        index(isPerson(person) && isDay(day));
        argument(entry >= 0 && entry <= 3);
        Human human = humans.get(person);
        int[] week = human.week.clone();
        week[day] = entry;
        state(isFeasible(human, week));
        int before = human.week[day];
        human.week = week;
        return before;
    }

    int swap(int person, int other, int day) {
        index(isPerson(person) && isPerson(other) && isDay(day));
        state(person != other && couldSwap(humans.get(person), humans.get(other), day));
        Human one = humans.get(person);
        Human two = humans.get(other);
        int entry = one.week[day];
        one.week[day] = two.week[day];
        two.week[day] = entry;
        return broken(one) + broken(two);
    }

    private boolean couldSwap(Human one, Human two, int day) {
        int[] weekOfOne = one.week.clone();
        int[] weekOfTwo = two.week.clone();
        weekOfOne[day] = two.week[day];
        weekOfTwo[day] = one.week[day];
        return isFeasible(one, weekOfOne) && isFeasible(two, weekOfTwo);
    }

    int closeWeek() {
        for (Human human : humans) {
            for (int entry : human.week) {
                human.past.add(entry);
            }
            human.week = new int[7];
            human.wishes = new boolean[7];
            Arrays.fill(human.fixed, -1);
        }
        return ++closed;
    }

    int entry(int person, int day) {
        index(isPerson(person) && isDay(day));
        return humans.get(person).week[day];
    }

    int gaps() {
        int sum = 0;
        for (int day = 0; day < 7; day++) {
            int[] have = new int[4];
            for (Human human : humans) {
                have[human.week[day]]++;
            }
            for (int kind = 1; kind <= 3; kind++) {
                sum += Math.max(0, needs[day][kind] - have[kind]);
            }
        }
        return sum;
    }

    int gap(int day, int kind) {
        index(isDay(day) && isKind(kind));
        int have = 0;
        for (Human human : humans) {
            have += human.week[day] == kind ? 1 : 0;
        }
        return Math.max(0, needs[day][kind] - have);
    }

    int shifts(int person) {
        index(isPerson(person));
        return shifts(humans.get(person).week);
    }

    int weekends(int person) {
        index(isPerson(person));
        return weekends(humans.get(person));
    }

    int broken(int person) {
        index(isPerson(person));
        return broken(humans.get(person));
    }

    int runBefore(int person) {
        index(isPerson(person));
        List<Integer> past = humans.get(person).past;
        int worked = 0;
        while (worked < past.size() && past.get(past.size() - 1 - worked) > 0) {
            worked++;
        }
        return worked;
    }

    boolean isFeasible(int person) {
        index(isPerson(person));
        return isFeasible(humans.get(person), humans.get(person).week);
    }

    int weeks(int person) {
        index(isPerson(person));
        int count = 0;
        for (int[] week : allWeeks()) {
            count += isFeasible(humans.get(person), week) ? 1 : 0;
        }
        return count;
    }

    int couldTake(int day, int kind) {
        index(isDay(day) && isKind(kind));
        int takers = 0;
        for (int person = 0; person < humans.size(); person++) {
            Human human = humans.get(person);
            int[] week = human.week.clone();
            week[day] = kind;
            if (human.week[day] == 0 && isFeasible(human, week)) {
                takers += 1 << person;
            }
        }
        return takers;
    }

    int swapFor(int person, int day) {
        index(isPerson(person) && isDay(day));
        Human human = humans.get(person);
        int found = -1;
        for (int other = humans.size() - 1; other >= 0; other--) {
            Human helper = humans.get(other);
            if (helper.week[day] != human.week[day] && couldSwap(human, helper, day)
                    && (found < 0 || shifts(helper.week) <= shifts(humans.get(found).week))) {
                found = other;
            }
        }
        return found;
    }

    int bound() {
        int least = 0;
        for (int day = 0; day < 7; day++) {
            least += leastGaps(0, needs[day].clone());
        }
        return least;
    }

    /** Gives each person in turn every kind that he can do, or none. */
    private int leastGaps(int person, int[] left) {
        if (person == humans.size()) {
            return left[1] + left[2] + left[3];
        }
        int least = leastGaps(person + 1, left);
        for (int kind = 1; kind <= 3; kind++) {
            if (left[kind] > 0 && (humans.get(person).skills & 1 << kind) != 0) {
                left[kind]--;
                least = Math.min(least, leastGaps(person + 1, left));
                left[kind]++;
            }
        }
        return least;
    }
}
