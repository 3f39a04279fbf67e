/**
 * The throws clauses: each argument just out of its range and far out of it, on either side; two and
 * three exceptions that apply at once; and "A call that throws an exception changes nothing": each
 * refused call is compared with a desk that never saw it.
 */
public final class EdgeRefusalsTest {
    private static final int[] NO_DAYS = {-1, 7, -7, 8, 32, Edge.MIN, Edge.MAX};
    private static final int[] NO_KINDS = {0, 4, -1, 5, 33, Edge.MIN, Edge.MAX};
    private static final int[] NO_PEOPLE = {-1, 3, 4, 7, 8, 32, -32, Edge.MIN, Edge.MAX};

    private EdgeRefusalsTest() {
    }

    public static void main(String[] args) {
        skillsThatAreNoSet();
        mostOutOfRange();
        ninthPerson();
        needsOutOfRange();
        kindsThatMayNotBeForbidden();
        runsOutOfRange();
        wishesOfNobody();
        fixesOfNobody();
        fixesOfNoEntry();
        setsOfNobody();
        setsOfNoEntry();
        swapsOfNobody();
        swapsWithOneself();
        questionsAboutNobody();
        questionsAboutNoDay();
        emptyDesk();
        addPersonThrowsTheFirst();
        setNeedThrowsTheFirst();
        fixThrowsTheFirst();
        setThrowsTheFirst();
        swapThrowsTheFirst();
        Check.end("EdgeRefusalsTest");
    }

    private static void full(CoverSheet desk) {
        Edge.add(desk, 8);
        Edge.need(desk, 2, "1234512");
        desk.wish(7, 6, true);
        desk.plan();
    }

    /** The first of two people has no feasible week. */
    private static void stuck(CoverSheet desk) {
        desk.addPerson(2, 7);
        desk.addPerson(14, 7);
        desk.fix(0, 3, 3);
    }

    private static void index(String what, Edge.Call call) {
        Edge.refusesIndex(what, Edge::busy, call);
    }

    private static void argument(String what, Edge.Call call) {
        Edge.refusesArgument(what, Edge::busy, call);
    }

    private static void state(String what, Edge.Call call) {
        Edge.refusesState(what, Edge::busy, call);
    }

    // 2: "IllegalArgumentException if skills is no such set": "2 to 14, even"
    private static void skillsThatAreNoSet() {
        int[] noSets = {1, 15, 0, 16, 3, 5, 7, 9, 11, 13, -1, -2, 17, 18, 30, 34, Edge.MIN, Edge.MIN + 2, Edge.MAX};
        for (int skills : noSets) {
            argument("addPerson(" + skills + ", 7)", desk -> desk.addPerson(skills, 7));
            argument("addPerson(" + skills + ", 0)", desk -> desk.addPerson(skills, 0));
        }
    }

    // 2: "or most is out of range": "0 to 7 shifts in a week"
    private static void mostOutOfRange() {
        int[] wrong = {-1, 8, -7, 15, 256, Edge.MIN, Edge.MAX};
        for (int most : wrong) {
            argument("addPerson(2, " + most + ")", desk -> desk.addPerson(2, most));
            argument("addPerson(14, " + most + ")", desk -> desk.addPerson(14, most));
        }
    }

    // 2: "IllegalStateException if there are 8 people"
    private static void ninthPerson() {
        Edge.refusesState("the ninth person", EdgeRefusalsTest::full, desk -> desk.addPerson(14, 7));
        Edge.refusesState("the least ninth person", EdgeRefusalsTest::full, desk -> desk.addPerson(2, 0));
        Edge.Maker closed = desk -> {
            full(desk);
            desk.closeWeek();
        };
        Edge.refusesState("the ninth person in the next week", closed, desk -> desk.addPerson(14, 7));
        Check.due("the eighth", Edge.people(7).addPerson(2, 0), 7);
    }

    // 3: "if there is no such day or kind", "if people is out of range": "0 to 5"
    private static void needsOutOfRange() {
        for (int day : NO_DAYS) {
            index("setNeed(" + day + ", 1, 5)", desk -> desk.setNeed(day, 1, 5));
        }
        for (int kind : NO_KINDS) {
            index("setNeed(0, " + kind + ", 5)", desk -> desk.setNeed(0, kind, 5));
            index("setNeed(6, " + kind + ", 5)", desk -> desk.setNeed(6, kind, 5));
        }
        int[] wrong = {-1, 6, -5, 8, Edge.MIN, Edge.MAX};
        for (int people : wrong) {
            argument("setNeed(0, 1, " + people + ")", desk -> desk.setNeed(0, 1, people));
            argument("setNeed(6, 3, " + people + ")", desk -> desk.setNeed(6, 3, people));
        }
    }

    // 4: "if there is no such kind or next"
    private static void kindsThatMayNotBeForbidden() {
        for (int wrong : NO_KINDS) {
            for (int right = 1; right <= 3; right++) {
                int kind = right;
                index("forbid(" + wrong + ", " + kind + ", true)", desk -> desk.forbid(wrong, kind, true));
                index("forbid(" + kind + ", " + wrong + ", true)", desk -> desk.forbid(kind, wrong, true));
                index("forbid(" + kind + ", " + wrong + ", false)", desk -> desk.forbid(kind, wrong, false));
            }
            index("forbid(" + wrong + ", " + wrong + ", false)", desk -> desk.forbid(wrong, wrong, false));
        }
    }

    // 5: "if days is out of range": "1 to 14"
    private static void runsOutOfRange() {
        int[] wrong = {0, 15, -1, 16, -14, Edge.MIN, Edge.MAX};
        for (int days : wrong) {
            argument("setRun(" + days + ")", desk -> desk.setRun(days));
        }
    }

    // 6: "if there is no such person or day"
    private static void wishesOfNobody() {
        for (int person : NO_PEOPLE) {
            index("wish(" + person + ", 0, true)", desk -> desk.wish(person, 0, true));
            index("wish(" + person + ", 6, false)", desk -> desk.wish(person, 6, false));
        }
        for (int day : NO_DAYS) {
            index("wish(0, " + day + ", true)", desk -> desk.wish(0, day, true));
            index("wish(2, " + day + ", false)", desk -> desk.wish(2, day, false));
        }
    }

    // 7: "if there is no such person or day"
    private static void fixesOfNobody() {
        for (int person : NO_PEOPLE) {
            index("fix(" + person + ", 0, 0)", desk -> desk.fix(person, 0, 0));
            index("fix(" + person + ", 6, -1)", desk -> desk.fix(person, 6, CoverSheet.NONE));
        }
        for (int day : NO_DAYS) {
            index("fix(0, " + day + ", 3)", desk -> desk.fix(0, day, 3));
            index("fix(2, " + day + ", -1)", desk -> desk.fix(2, day, CoverSheet.NONE));
        }
    }

    // 7: "if entry is neither an entry nor NONE"
    private static void fixesOfNoEntry() {
        int[] wrong = {-2, 4, -4, 5, 15, 16, Edge.MIN, Edge.MAX};
        for (int entry : wrong) {
            argument("fix(0, 0, " + entry + ")", desk -> desk.fix(0, 0, entry));
            argument("fix(2, 6, " + entry + ")", desk -> desk.fix(2, 6, entry));
        }
    }

    // 10: "if there is no such person or day"
    private static void setsOfNobody() {
        for (int person : NO_PEOPLE) {
            index("set(" + person + ", 0, 0)", desk -> desk.set(person, 0, 0));
            index("set(" + person + ", 6, 3)", desk -> desk.set(person, 6, 3));
        }
        for (int day : NO_DAYS) {
            index("set(0, " + day + ", 0)", desk -> desk.set(0, day, 0));
            index("set(2, " + day + ", 1)", desk -> desk.set(2, day, 1));
        }
    }

    // 10: "if there is no such entry": NONE is none, too.
    private static void setsOfNoEntry() {
        int[] wrong = {CoverSheet.NONE, 4, -2, 5, -3, Edge.MIN, Edge.MAX};
        for (int entry : wrong) {
            argument("set(0, 0, " + entry + ")", desk -> desk.set(0, 0, entry));
            argument("set(2, 6, " + entry + ")", desk -> desk.set(2, 6, entry));
        }
    }

    // 11: "if there is no such person, other or day"
    private static void swapsOfNobody() {
        for (int person : NO_PEOPLE) {
            index("swap(" + person + ", 0, 0)", desk -> desk.swap(person, 0, 0));
            index("swap(0, " + person + ", 0)", desk -> desk.swap(0, person, 0));
            index("swap(2, " + person + ", 6)", desk -> desk.swap(2, person, 6));
        }
        for (int day : NO_DAYS) {
            index("swap(0, 1, " + day + ")", desk -> desk.swap(0, 1, day));
            index("swap(2, 0, " + day + ")", desk -> desk.swap(2, 0, day));
        }
    }

    // 11: "if both are the same"
    private static void swapsWithOneself() {
        for (int number = 0; number <= 2; number++) {
            int person = number;
            state("swap(" + person + ", " + person + ", 0)", desk -> desk.swap(person, person, 0));
            state("swap(" + person + ", " + person + ", 6)", desk -> desk.swap(person, person, 6));
        }
    }

    // 14, 17 to 23 and 25: "if there is no such person"
    private static void questionsAboutNobody() {
        for (int person : NO_PEOPLE) {
            index("entry(" + person + ", 0)", desk -> desk.entry(person, 0));
            index("entry(" + person + ", 6)", desk -> desk.entry(person, 6));
            index("shifts(" + person + ")", desk -> desk.shifts(person));
            index("weekends(" + person + ")", desk -> desk.weekends(person));
            index("broken(" + person + ")", desk -> desk.broken(person));
            index("runBefore(" + person + ")", desk -> desk.runBefore(person));
            index("isFeasible(" + person + ")", desk -> desk.isFeasible(person));
            index("weeks(" + person + ")", desk -> desk.weeks(person));
            index("weeksByDays(" + person + ")", desk -> desk.weeksByDays(person));
            index("swapFor(" + person + ", 0)", desk -> desk.swapFor(person, 0));
            index("swapFor(" + person + ", 6)", desk -> desk.swapFor(person, 6));
        }
    }

    // 14, 16, 24 and 25: "if there is no such [..] day", "if there is no such day or kind"
    private static void questionsAboutNoDay() {
        for (int day : NO_DAYS) {
            index("entry(0, " + day + ")", desk -> desk.entry(0, day));
            index("entry(2, " + day + ")", desk -> desk.entry(2, day));
            index("gap(" + day + ", 1)", desk -> desk.gap(day, 1));
            index("gap(" + day + ", 3)", desk -> desk.gap(day, 3));
            index("couldTake(" + day + ", 1)", desk -> desk.couldTake(day, 1));
            index("couldTake(" + day + ", 3)", desk -> desk.couldTake(day, 3));
            index("swapFor(0, " + day + ")", desk -> desk.swapFor(0, day));
            index("swapFor(2, " + day + ")", desk -> desk.swapFor(2, day));
        }
        for (int kind : NO_KINDS) {
            index("gap(0, " + kind + ")", desk -> desk.gap(0, kind));
            index("gap(6, " + kind + ")", desk -> desk.gap(6, kind));
            index("couldTake(0, " + kind + ")", desk -> desk.couldTake(0, kind));
            index("couldTake(6, " + kind + ")", desk -> desk.couldTake(6, kind));
        }
    }

    // "There can be 8 people, numbered from 0": where nobody is, 0 is nobody's number.
    private static void emptyDesk() {
        Edge.Maker nothing = desk -> { };
        Edge.refusesIndex("wish(0, 0, true) of nobody", nothing, desk -> desk.wish(0, 0, true));
        Edge.refusesIndex("fix(0, 0, 0) of nobody", nothing, desk -> desk.fix(0, 0, 0));
        Edge.refusesIndex("set(0, 0, 0) of nobody", nothing, desk -> desk.set(0, 0, 0));
        Edge.refusesIndex("swap(0, 0, 0) of nobody", nothing, desk -> desk.swap(0, 0, 0));
        Edge.refusesIndex("swap(0, 1, 0) of nobody", nothing, desk -> desk.swap(0, 1, 0));
        Edge.refusesIndex("entry(0, 0) of nobody", nothing, desk -> desk.entry(0, 0));
        Edge.refusesIndex("shifts(0) of nobody", nothing, desk -> desk.shifts(0));
        Edge.refusesIndex("weekends(0) of nobody", nothing, desk -> desk.weekends(0));
        Edge.refusesIndex("broken(0) of nobody", nothing, desk -> desk.broken(0));
        Edge.refusesIndex("runBefore(0) of nobody", nothing, desk -> desk.runBefore(0));
        Edge.refusesIndex("isFeasible(0) of nobody", nothing, desk -> desk.isFeasible(0));
        Edge.refusesIndex("weeks(0) of nobody", nothing, desk -> desk.weeks(0));
        Edge.refusesIndex("weeksByDays(0) of nobody", nothing, desk -> desk.weeksByDays(0));
        Edge.refusesIndex("swapFor(0, 0) of nobody", nothing, desk -> desk.swapFor(0, 0));
        Edge.refusesIndex("swap(0, 1, 0) of one", desk -> Edge.add(desk, 1), desk -> desk.swap(0, 1, 0));
        Edge.refusesIndex("swap(1, 0, 0) of one", desk -> Edge.add(desk, 1), desk -> desk.swap(1, 0, 0));
    }

    // 2: "if several exceptions apply, the one that its throws clause names first is thrown"
    private static void addPersonThrowsTheFirst() {
        int[] skills = {1, 15, 0, 16, 2, 14, 2, 14, 1};
        int[] most = {7, 0, 3, 3, -1, 8, 8, -1, 8};
        for (int number = 0; number < skills.length; number++) {
            int set = skills[number];
            int shifts = most[number];
            Edge.refusesArgument("addPerson(" + set + ", " + shifts + ") as the ninth",
                    EdgeRefusalsTest::full, desk -> desk.addPerson(set, shifts));
        }
    }

    // 3: the same
    private static void setNeedThrowsTheFirst() {
        int[][] calls = {{7, 1, 6}, {-1, 3, -1}, {0, 0, 6}, {6, 4, -1}, {-1, 0, 6}, {7, 4, Edge.MIN}};
        for (int[] call : calls) {
            index("setNeed(" + call[0] + ", " + call[1] + ", " + call[2] + ")",
                    desk -> desk.setNeed(call[0], call[1], call[2]));
        }
    }

    // 7: the same
    private static void fixThrowsTheFirst() {
        int[][] calls = {{3, 0, 4}, {-1, 6, -2}, {0, 7, 4}, {2, -1, -2}, {3, 7, 4}, {-1, -1, Edge.MAX}};
        for (int[] call : calls) {
            index("fix(" + call[0] + ", " + call[1] + ", " + call[2] + ")",
                    desk -> desk.fix(call[0], call[1], call[2]));
        }
    }

    // 10: the same; three exceptions, too: no day, no entry, no feasible week
    private static void setThrowsTheFirst() {
        int[][] noIndex = {
            {0, 7, 1}, {0, -1, 0}, {0, 7, 4}, {0, -1, -1}, {2, 0, 4}, {-1, 0, -1}, {2, 7, 4}, {-1, -1, 9},
        };
        for (int[] call : noIndex) {
            Edge.refusesIndex("set(" + call[0] + ", " + call[1] + ", " + call[2] + ") of the stuck",
                    EdgeRefusalsTest::stuck, desk -> desk.set(call[0], call[1], call[2]));
        }
        int[] noEntries = {-1, 4, Edge.MIN, Edge.MAX};
        for (int entry : noEntries) {
            Edge.refusesArgument("set(0, 0, " + entry + ") of the stuck",
                    EdgeRefusalsTest::stuck, desk -> desk.set(0, 0, entry));
        }
        Edge.refusesState("set(0, 0, 0) of the stuck", EdgeRefusalsTest::stuck, desk -> desk.set(0, 0, 0));
    }

    // 11: the same; also where both are the same, or could not
    private static void swapThrowsTheFirst() {
        int[][] noIndex = {
            {0, 0, 7}, {1, 1, -1}, {2, 2, 0}, {-1, -1, 0}, {8, 8, 7}, {0, 1, 7}, {1, 0, -1}, {0, 2, 0},
            {2, 0, 6}, {-1, 0, 0}, {0, -1, 7},
        };
        for (int[] call : noIndex) {
            Edge.refusesIndex("swap(" + call[0] + ", " + call[1] + ", " + call[2] + ") of the stuck",
                    EdgeRefusalsTest::stuck, desk -> desk.swap(call[0], call[1], call[2]));
        }
        Edge.refusesState("swap(0, 0, 3) of the stuck", EdgeRefusalsTest::stuck, desk -> desk.swap(0, 0, 3));
        Edge.refusesState("swap(0, 1, 0) of the stuck", EdgeRefusalsTest::stuck, desk -> desk.swap(0, 1, 0));
        Edge.refusesState("swap(1, 0, 0) of the stuck", EdgeRefusalsTest::stuck, desk -> desk.swap(1, 0, 0));
    }
}
