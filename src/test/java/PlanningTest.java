/** Promises 8 to 12. */
public final class PlanningTest {
    private PlanningTest() {
    }

    public static void main(String[] args) {
        promise8FillsGaps();
        promise8KeepsRules();
        promise8NoUselessShift();
        promise8Burden();
        promise8BurdenGrows();
        promise8BurdenAheadOfWishes();
        promise8Wishes();
        promise8Order();
        promise8Fixed();
        promise8NoFeasibleWeek();
        promise8AcrossWeeks();
        promise8EndsWithTheTenthRound();
        promise9Rounds();
        promise10Set();
        promise10SetAgainstRules();
        promise11Swap();
        promise11SwapRefused();
        promise12CloseWeek();
        promise12RulesGoOn();
        Check.end("PlanningTest");
    }

    private static CoverSheet deskOf(int people, int skills, int most) {
        CoverSheet desk = new CoverSheet();
        for (int number = 0; number < people; number++) {
            desk.addPerson(skills, most);
        }
        return desk;
    }

    private static void needOnAllDays(CoverSheet desk, int kind, int people) {
        for (int day = 0; day < 7; day++) {
            desk.setNeed(day, kind, people);
        }
    }

    private static void promise8FillsGaps() {
        CoverSheet desk = deskOf(3, 14, 7);
        Check.due("8 plan() without needs", desk.plan(), 0);
        needOnAllDays(desk, 1, 1);
        needOnAllDays(desk, 3, 1);
        Check.due("8 plan()", desk.plan(), 1);
        Check.due("8 the first", Check.week(desk, 0), "1011111");
        Check.due("8 the second", Check.week(desk, 1), "3033333");
        Check.due("8 the third", Check.week(desk, 2), "0100000");
        Check.due("8 the gap", desk.gap(1, 3), 1);
        Check.due("8 once more", desk.plan(), 1);
        Check.due("8 the same", Check.week(desk, 1), "3033333");
        desk.setNeed(4, 2, 4);
        Check.due("8 what stays open", desk.plan(), 4);
        Check.due("8 gaps()", desk.gaps(), 4);
        Check.due("8 the third takes one", Check.week(desk, 2), "0100200");
    }

    private static void promise8KeepsRules() {
        CoverSheet desk = deskOf(1, 2, 7);
        needOnAllDays(desk, 1, 1);
        Check.due("8 the run of five", desk.plan(), 1);
        Check.due("8 the later days first", Check.week(desk, 0), "1011111");
        desk.setRun(3);
        Check.due("8 the run of three", desk.plan(), 1);
        Check.due("8 three at a time", Check.week(desk, 0), "1110111");
        desk = deskOf(1, 2, 3);
        needOnAllDays(desk, 1, 1);
        Check.due("8 at most three shifts", desk.plan(), 4);
        Check.due("8 the last three", Check.week(desk, 0), "0000111");
        desk = deskOf(1, 6, 7);
        needOnAllDays(desk, 3, 1);
        Check.due("8 no such skill", desk.plan(), 7);
        desk.setNeed(0, 2, 1);
        desk.setNeed(1, 1, 1);
        Check.due("8 early after late", desk.plan(), 8);
        Check.due("8 the second day", Check.week(desk, 0), "0100000");
        desk.forbid(2, 1, false);
        Check.due("8 early after late is allowed", desk.plan(), 7);
        Check.due("8 both days", Check.week(desk, 0), "2100000");
    }

    private static void promise8NoUselessShift() {
        CoverSheet desk = deskOf(2, 2, 7);
        desk.setNeed(2, 1, 1);
        desk.set(0, 0, 1);
        desk.set(1, 4, 1);
        Check.due("8 plan()", desk.plan(), 0);
        Check.due("8 all entries become 0 ahead", Check.week(desk, 0), "0010000");
        Check.due("8 nothing is left for the second", Check.week(desk, 1), "0000000");
        Check.due("8 shifts(1)", desk.shifts(1), 0);
    }

    private static CoverSheet afterAWeekend(int most) {
        CoverSheet desk = deskOf(1, 14, most);
        desk.set(0, 5, 1);
        desk.closeWeek();
        desk.setNeed(4, 1, 1);
        desk.setNeed(5, 1, 1);
        return desk;
    }

    private static void promise8Burden() {
        CoverSheet desk = deskOf(1, 14, 1);
        desk.setNeed(4, 1, 1);
        desk.setNeed(5, 1, 1);
        Check.due("8 without burden", desk.plan(), 1);
        Check.due("8 the later day", Check.week(desk, 0), "0000010");
        desk = afterAWeekend(1);
        Check.due("8 with burden", desk.plan(), 1);
        Check.due("8 the day ahead of the weekend", Check.week(desk, 0), "0000100");
        desk.setNeed(4, 1, 0);
        Check.due("8 gaps go ahead of burden", desk.plan(), 0);
        Check.due("8 the weekend", Check.week(desk, 0), "0000010");
    }

    private static void promise8BurdenGrows() {
        CoverSheet desk = deskOf(1, 2, 3);
        desk.setRun(2);
        desk.set(0, 6, 1);
        desk.closeWeek();
        needOnAllDays(desk, 1, 1);
        Check.due("8 three of seven", desk.plan(), 4);
        Check.due("8 none on the weekend", Check.week(desk, 0), "0101100");
        desk.setNeed(2, 1, 0);
        desk.setNeed(0, 1, 0);
        desk.setNeed(1, 1, 0);
        Check.due("8 three of four", desk.plan(), 1);
        Check.due("8 one on the weekend", Check.week(desk, 0), "0001101");
    }

    private static void promise8BurdenAheadOfWishes() {
        CoverSheet desk = afterAWeekend(1);
        desk.wish(0, 4, true);
        Check.due("8 a wish against burden", desk.plan(), 1);
        Check.due("8 burden goes ahead of wishes", Check.week(desk, 0), "0000100");
    }

    private static void promise8Wishes() {
        CoverSheet desk = deskOf(2, 2, 1);
        desk.setNeed(1, 1, 1);
        desk.setNeed(3, 1, 1);
        Check.due("8 no wishes", desk.plan(), 0);
        Check.due("8 the first in the order", Check.week(desk, 0), "0001000");
        desk.wish(0, 3, true);
        Check.due("8 a wish", desk.plan(), 0);
        Check.due("8 another day", Check.week(desk, 0), "0100000");
        Check.due("8 the other takes that", Check.week(desk, 1), "0001000");
        desk.wish(0, 1, true);
        Check.due("8 wishes for both days", desk.plan(), 0);
        Check.due("8 gaps go ahead of wishes", Check.week(desk, 0), "0001000");
        desk = deskOf(1, 2, 2);
        needOnAllDays(desk, 1, 1);
        for (int day = 0; day < 7; day++) {
            desk.wish(0, day, day != 2);
        }
        Check.due("8 wishes for all days but one", desk.plan(), 5);
        Check.due("8 the fewest wishes", Check.week(desk, 0), "0010001");
    }

    private static void promise8Order() {
        CoverSheet desk = deskOf(1, 14, 7);
        for (int kind = 1; kind <= 3; kind++) {
            needOnAllDays(desk, kind, 1);
        }
        desk.setRun(14);
        Check.due("8 all kinds", desk.plan(), 14);
        Check.due("8 the lowest kind", Check.week(desk, 0), "1111111");
        desk.setNeed(0, 1, 0);
        Check.due("8 a later kind at first", desk.plan(), 13);
        Check.due("8 what follows it", Check.week(desk, 0), "2222222");
    }

    private static void promise8Fixed() {
        CoverSheet desk = deskOf(2, 14, 7);
        desk.setNeed(2, 1, 1);
        desk.setNeed(3, 2, 1);
        desk.fix(0, 2, 0);
        desk.fix(1, 3, 3);
        Check.due("8 fixed entries", desk.plan(), 0);
        Check.due("8 off is kept", Check.week(desk, 0), "0002000");
        Check.due("8 a useless shift is kept", Check.week(desk, 1), "0013000");
        desk.fix(1, 2, 2);
        Check.due("8 one place less", desk.plan(), 1);
        Check.due("8 two useless shifts", Check.week(desk, 1), "0023000");
    }

    private static void promise8NoFeasibleWeek() {
        CoverSheet desk = deskOf(2, 2, 7);
        needOnAllDays(desk, 1, 1);
        desk.set(0, 0, 1);
        desk.fix(0, 3, 3);
        Check.due("8 the first has no week", desk.plan(), 1);
        Check.due("8 0 on all days", Check.week(desk, 0), "0000000");
        Check.due("8 the second goes on", Check.week(desk, 1), "1011111");
        Check.due("8 rounds()", desk.rounds(), 2);
    }

    private static void promise8AcrossWeeks() {
        CoverSheet desk = deskOf(1, 10, 7);
        needOnAllDays(desk, 1, 1);
        desk.set(0, 6, 3);
        desk.closeWeek();
        Check.due("8 early after last week's night", desk.plan(), 2);
        Check.due("8 not on the first day, once on the weekend", Check.week(desk, 0), "0111101");
        desk = deskOf(1, 2, 7);
        needOnAllDays(desk, 1, 1);
        desk.plan();
        desk.closeWeek();
        Check.due("8 runBefore(0)", desk.runBefore(0), 5);
        desk.plan();
        Check.due("8 off after five days", desk.entry(0, 0), 0);
    }

    /** Two more rounds would fill the last gap; the fixed shifts, known only at their turn, start that. */
    private static void promise8EndsWithTheTenthRound() {
        CoverSheet desk = new CoverSheet();
        desk.setRun(6);
        desk.forbid(2, 3, true);
        desk.forbid(3, 2, false);
        int[][] needs = {
            {0, 3, 1}, {1, 2, 2}, {1, 3, 1}, {2, 1, 1}, {2, 2, 1}, {2, 3, 1}, {3, 2, 3}, {3, 3, 1},
            {4, 2, 1}, {4, 3, 1}, {5, 2, 2}, {5, 3, 1}, {6, 2, 1}, {6, 3, 1},
        };
        for (int[] need : needs) {
            desk.setNeed(need[0], need[1], need[2]);
        }
        int[][] people = {{6, 1}, {14, 7}, {2, 2}, {4, 5}, {12, 7}, {14, 4}, {14, 5}};
        for (int[] person : people) {
            desk.addPerson(person[0], person[1]);
        }
        int[][] fixes = {
            {0, 2, 3}, {2, 3, 2}, {3, 0, 1}, {5, 4, 0}, {5, 5, 2}, {6, 2, 0}, {6, 4, 0}, {6, 5, 0}, {6, 6, 2},
        };
        for (int[] fix : fixes) {
            desk.fix(fix[0], fix[1], fix[2]);
        }
        desk.wish(1, 6, true);
        Check.due("8 plan() of ten rounds", desk.plan(), 1);
        Check.due("8 ten rounds", desk.rounds(), 10);
        String[] weeks = {"0000000", "3322220", "0000000", "0000000", "0033333", "0012020", "0202002"};
        for (int person = 0; person < weeks.length; person++) {
            Check.due("8 after ten rounds, " + person, Check.week(desk, person), weeks[person]);
        }
    }

    private static void promise9Rounds() {
        CoverSheet desk = new CoverSheet();
        Check.due("9 no planning", desk.rounds(), 0);
        desk.plan();
        Check.due("9 without people", desk.rounds(), 1);
        desk.addPerson(2, 1);
        desk.addPerson(2, 1);
        desk.plan();
        Check.due("9 nothing changes", desk.rounds(), 1);
        desk.setNeed(0, 1, 1);
        desk.setNeed(1, 1, 1);
        Check.due("9 rounds() stays until a planning", desk.rounds(), 1);
        desk.plan();
        Check.due("9 the second changes nothing", desk.rounds(), 2);
        desk.plan();
        Check.due("9 the same again", desk.rounds(), 2);
        desk.fix(1, 1, 1);
        Check.due("9 the second is fixed where the first goes", desk.plan(), 0);
        Check.due("9 the first goes elsewhere", Check.week(desk, 0), "1000000");
        Check.due("9 the third changes nothing", desk.rounds(), 3);
        desk.closeWeek();
        Check.due("9 closeWeek() leaves it", desk.rounds(), 3);
    }

    private static void promise10Set() {
        CoverSheet desk = deskOf(2, 6, 2);
        Check.due("10 set(0, 0, 1)", desk.set(0, 0, 1), 0);
        Check.due("10 set(0, 0, 2)", desk.set(0, 0, 2), 1);
        Check.due("10 set(0, 0, 2) again", desk.set(0, 0, 2), 2);
        Check.due("10 set(0, 6, 2)", desk.set(0, 6, 2), 0);
        Check.due("10 the week", Check.week(desk, 0), "2000002");
        Check.due("10 the other's week", Check.week(desk, 1), "0000000");
        Check.state(desk, "10 a third shift", () -> desk.set(0, 3, 1));
        Check.state(desk, "10 no skill", () -> desk.set(1, 3, 3));
        Check.due("10 off", desk.set(0, 0, 0), 2);
        Check.due("10 off where off is", desk.set(0, 1, 0), 0);
        Check.index(desk, "10 set(2, 0, 1)", () -> desk.set(2, 0, 1));
        Check.index(desk, "10 set(-1, 0, 1)", () -> desk.set(-1, 0, 1));
        Check.index(desk, "10 set(0, 7, 1)", () -> desk.set(0, 7, 1));
        Check.index(desk, "10 set(0, -1, 1)", () -> desk.set(0, -1, 1));
        Check.index(desk, "10 set(0, 7, 9)", () -> desk.set(0, 7, 9));
        Check.argument(desk, "10 set(0, 0, 4)", () -> desk.set(0, 0, 4));
        Check.argument(desk, "10 set(0, 0, -1)", () -> desk.set(0, 0, -1));
        desk.fix(0, 3, 1);
        Check.state(desk, "10 another day is fixed otherwise", () -> desk.set(0, 4, 0));
        Check.argument(desk, "10 no entry in such a week", () -> desk.set(0, 4, 4));
        Check.due("10 what is fixed", desk.set(0, 3, 1), 0);
    }

    private static void promise10SetAgainstRules() {
        CoverSheet desk = deskOf(1, 14, 7);
        desk.set(0, 3, 2);
        Check.state(desk, "10 early after late", () -> desk.set(0, 4, 1));
        Check.state(desk, "10 night ahead of late", () -> desk.set(0, 2, 3));
        Check.due("10 early ahead of late", desk.set(0, 2, 1), 0);
        desk.setRun(3);
        Check.due("10 the third in a row", desk.set(0, 4, 2), 0);
        Check.state(desk, "10 the fourth", () -> desk.set(0, 5, 3));
        Check.state(desk, "10 the fourth, ahead", () -> desk.set(0, 1, 1));
        desk.setRun(1);
        Check.state(desk, "10 still not feasible", () -> desk.set(0, 4, 0));
        Check.state(desk, "10 as it is", () -> desk.set(0, 4, 2));
        Check.due("10 feasible again", desk.set(0, 3, 0), 2);
    }

    private static void promise11Swap() {
        CoverSheet desk = deskOf(3, 14, 3);
        desk.set(0, 2, 1);
        desk.set(1, 2, 3);
        desk.set(1, 4, 2);
        desk.wish(0, 2, true);
        desk.wish(1, 4, true);
        desk.wish(1, 2, true);
        Check.due("11 swap(0, 1, 2)", desk.swap(0, 1, 2), 3);
        Check.due("11 the one", Check.week(desk, 0), "0030000");
        Check.due("11 the other", Check.week(desk, 1), "0010200");
        Check.due("11 swap(2, 1, 2)", desk.swap(2, 1, 2), 1);
        Check.due("11 one is off then", Check.week(desk, 1), "0000200");
        Check.due("11 the third", Check.week(desk, 2), "0010000");
        Check.due("11 the same entry", desk.swap(1, 2, 6), 1);
        Check.due("11 gaps()", desk.gaps(), 0);
    }

    private static void promise11SwapRefused() {
        CoverSheet desk = deskOf(2, 6, 2);
        desk.addPerson(4, 7);
        desk.set(0, 0, 1);
        desk.set(1, 0, 2);
        desk.set(1, 1, 2);
        Check.state(desk, "11 the same", () -> desk.swap(0, 0, 0));
        Check.state(desk, "11 the other could not", () -> desk.swap(0, 2, 0));
        Check.state(desk, "11 the one could not", () -> desk.swap(2, 0, 0));
        desk.set(0, 1, 1);
        Check.state(desk, "11 late ahead of early", () -> desk.swap(0, 1, 0));
        desk.set(1, 0, 0);
        desk.fix(1, 5, 0);
        Check.due("11 late behind early", desk.swap(0, 1, 1), 0);
        Check.due("11 back", desk.swap(0, 1, 1), 0);
        desk.fix(1, 5, 1);
        Check.state(desk, "11 not feasible for another day", () -> desk.swap(0, 1, 6));
        Check.index(desk, "11 swap(3, 0, 0)", () -> desk.swap(3, 0, 0));
        Check.index(desk, "11 swap(0, 3, 0)", () -> desk.swap(0, 3, 0));
        Check.index(desk, "11 swap(-1, 0, 0)", () -> desk.swap(-1, 0, 0));
        Check.index(desk, "11 swap(0, -1, 0)", () -> desk.swap(0, -1, 0));
        Check.index(desk, "11 swap(0, 1, 7)", () -> desk.swap(0, 1, 7));
        Check.index(desk, "11 swap(0, 0, -1)", () -> desk.swap(0, 0, -1));
        Check.index(desk, "11 swap(7, 7, 0)", () -> desk.swap(7, 7, 0));
    }

    private static void promise12CloseWeek() {
        CoverSheet desk = deskOf(2, 14, 7);
        desk.set(0, 4, 1);
        desk.set(0, 5, 2);
        desk.set(0, 6, 3);
        desk.set(1, 5, 1);
        desk.wish(0, 4, true);
        desk.fix(1, 2, 3);
        desk.setNeed(5, 1, 4);
        desk.forbid(1, 1, true);
        desk.setRun(9);
        Check.due("12 the first", desk.closeWeek(), 1);
        Check.due("12 entries of 0", Check.week(desk, 0), "0000000");
        Check.due("12 entries of 1", Check.week(desk, 1), "0000000");
        Check.due("12 the row of 0", desk.runBefore(0), 3);
        Check.due("12 the row of 1", desk.runBefore(1), 0);
        Check.due("12 the weekend of 0", desk.weekends(0), 2);
        Check.due("12 the weekend of 1", desk.weekends(1), 1);
        Check.due("12 wishes", desk.wish(0, 4, true), true);
        Check.due("12 fixed", desk.fix(1, 2, -1), -1);
        Check.due("12 needs stay", desk.gap(5, 1), 4);
        Check.due("12 rules stay", desk.forbid(1, 1, true), false);
        Check.due("12 the run stays", desk.setRun(5), 9);
        Check.due("12 the second", desk.closeWeek(), 2);
        Check.due("12 the row ends", desk.runBefore(0), 0);
        Check.due("12 the weekends stay", desk.weekends(0), 2);
        Check.due("12 the third", desk.closeWeek(), 3);
    }

    private static void promise12RulesGoOn() {
        CoverSheet desk = deskOf(1, 14, 7);
        desk.set(0, 5, 2);
        desk.set(0, 6, 3);
        desk.closeWeek();
        Check.state(desk, "12 early after night", () -> desk.set(0, 0, 1));
        Check.state(desk, "12 late after night", () -> desk.set(0, 0, 2));
        desk.set(0, 0, 3);
        desk.set(0, 1, 3);
        desk.set(0, 2, 3);
        Check.state(desk, "12 the sixth in a row", () -> desk.set(0, 3, 3));
        desk.closeWeek();
        Check.due("12 early after a day off", desk.set(0, 0, 1), 0);
        desk.closeWeek();
        for (int day = 0; day < 7; day++) {
            desk.set(0, day, day % 5 == 0 ? 0 : 2);
        }
        desk.setRun(14);
        for (int week = 0; week < 2; week++) {
            for (int day = 0; day < 7; day++) {
                desk.set(0, day, 2);
            }
            desk.closeWeek();
        }
        Check.due("12 two whole weeks", desk.runBefore(0), 14);
        Check.state(desk, "12 the fifteenth day", () -> desk.set(0, 0, 2));
        desk.setRun(2);
        Check.due("12 a longer row is over when the week begins off", desk.isFeasible(0), true);
        Check.due("12 the second day", desk.set(0, 1, 1), 0);
        Check.due("12 six weekend shifts", desk.weekends(0), 6);
    }
}
