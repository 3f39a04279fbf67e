/** The boundaries of the promises 8 and 9, and of the sentences of "Terms" about planning. */
public final class EdgePlanningTest {
    private EdgePlanningTest() {
    }

    public static void main(String[] args) {
        planOfNobody();
        planOfNothingNeeded();
        planOfTheMostNeeded();
        planOfOneNeed();
        planAtTheNeed();
        planStartsAnew();
        peopleByRisingNumbers();
        othersStayAsTheyAreThen();
        gapsAheadOfAllElse();
        fewestShifts();
        burdenOfNothing();
        burdenOfOneAndTwo();
        burdenAheadOfWishes();
        wishesAheadOfTheOrder();
        orderByTheFirstDay();
        orderByTheEntry();
        leastAndGreatestMost();
        shortestAndLongestRun();
        planAfterClosedWeeks();
        noFeasibleWeek();
        nobodyHasAFeasibleWeek();
        allDaysFixed();
        gapsThen();
        roundsAtFirst();
        roundsOfOne();
        roundsOfTwoAndThree();
        roundsEndWithNoChange();
        tenthRoundThatChangesNothing();
        roundsEndWithTheTenth();
        roundsOfTheLastPlanning();
        Check.end("EdgePlanningTest");
    }

    // 8: nobody there, with nothing needed and with the most
    private static void planOfNobody() {
        CoverSheet desk = new CoverSheet();
        Check.due("plan()", desk.plan(), 0);
        for (int kind = 1; kind <= 3; kind++) {
            Edge.need(desk, kind, "5555555");
        }
        Check.due("plan() of the most needed", desk.plan(), 105);
        Check.due("gaps()", desk.gaps(), 105);
    }

    // 8: "of several the one with the fewest shifts": where nothing is needed that is none
    private static void planOfNothingNeeded() {
        CoverSheet desk = Edge.freePeople(8);
        Check.due("plan()", desk.plan(), 0);
        for (int person = 0; person <= 7; person++) {
            Check.due("the week of " + person, Check.week(desk, person), "0000000");
        }
    }

    // 8: the most that may be needed, and the desk full
    private static void planOfTheMostNeeded() {
        CoverSheet desk = Edge.freePeople(8);
        for (int kind = 1; kind <= 3; kind++) {
            Edge.need(desk, kind, "5555555");
        }
        Check.due("plan()", desk.plan(), 105 - 56);
        for (int person = 0; person <= 7; person++) {
            Check.due("the week of " + person, Check.week(desk, person), person < 5 ? "1111111" : "2222222");
        }
        Check.due("gap(0, 1)", desk.gap(0, 1), 0);
        Check.due("gap(6, 2)", desk.gap(6, 2), 2);
        Check.due("gap(6, 3)", desk.gap(6, 3), 5);
    }

    // 8: one person needed, on each day and of each kind
    private static void planOfOneNeed() {
        for (int day = 0; day <= 6; day++) {
            for (int kind = 1; kind <= 3; kind++) {
                CoverSheet desk = Edge.people(1);
                desk.setNeed(day, kind, 1);
                Check.due("plan()", desk.plan(), 0);
                Check.due("shifts(0)", desk.shifts(0), 1);
                Check.due("entry(0, " + day + ")", desk.entry(0, day), kind);
            }
        }
    }

    // 8: "the least gaps", "the fewest shifts": as many people as are needed, none more
    private static void planAtTheNeed() {
        for (int need = 0; need <= 5; need++) {
            for (int people = 0; people <= 8; people++) {
                CoverSheet desk = Edge.people(people);
                desk.setNeed(6, 3, need);
                String what = people + " people where " + need + " are needed";
                Check.due("plan() of " + what, desk.plan(), Math.max(0, need - people));
                for (int person = 0; person < people; person++) {
                    Check.due("the entry of " + person + " of " + what, desk.entry(person, 6), person < need ? 3 : 0);
                }
            }
        }
    }

    // 8: "All entries become 0."
    private static void planStartsAnew() {
        CoverSheet desk = Edge.freePeople(2);
        Edge.work(desk, 0, "1111111");
        Edge.work(desk, 1, "3333333");
        desk.setNeed(0, 3, 1);
        desk.setNeed(6, 1, 1);
        Check.due("plan()", desk.plan(), 0);
        // If the second one's shifts were still there, the first day would not be left to the first.
        Check.due("the first", Check.week(desk, 0), "3000001");
        Check.due("the second", Check.week(desk, 1), "0000000");
        Check.due("plan() again", desk.plan(), 0);
        Check.due("the first again", Check.week(desk, 0), "3000001");
    }

    // 8: "in each one the people, by rising numbers, choose anew"
    private static void peopleByRisingNumbers() {
        CoverSheet desk = new CoverSheet();
        for (int person = 0; person <= 7; person++) {
            desk.addPerson(2, 1);
        }
        Edge.need(desk, 1, "1111111");
        Check.due("plan()", desk.plan(), 0);
        for (int person = 0; person <= 6; person++) {
            Check.due("the day of " + person, desk.entry(person, 6 - person), 1);
        }
        Check.due("nothing is left for the last", Check.week(desk, 7), "0000000");
    }

    // 8: "while the entries of all others stay as they are then": the later ones are 0 at first, also
    // where a shift is fixed, and are seen in the next round.
    private static void othersStayAsTheyAreThen() {
        CoverSheet desk = Edge.people(2);
        desk.setNeed(3, 1, 1);
        desk.fix(1, 3, 1);
        Check.due("plan()", desk.plan(), 0);
        Check.due("the first leaves it to the second", Check.week(desk, 0), "0000000");
        Check.due("the second", Check.week(desk, 1), "0001000");
        Check.due("rounds()", desk.rounds(), 3);
        CoverSheet other = Edge.people(2);
        other.setNeed(3, 1, 1);
        other.fix(0, 3, 1);
        Check.due("plan() with the first fixed", other.plan(), 0);
        Check.due("the second sees it at once", Check.week(other, 1), "0000000");
        Check.due("rounds() then", other.rounds(), 2);
    }

    /** Had some weekend shifts, and may have a number of shifts more. */
    private static CoverSheet after(String week, int most) {
        CoverSheet desk = new CoverSheet();
        desk.addPerson(14, most);
        desk.setRun(14);
        Edge.work(desk, 0, week);
        desk.closeWeek();
        return desk;
    }

    // 8: "the one with the least gaps": one gap less goes ahead of shifts, burden, wishes and the order
    private static void gapsAheadOfAllElse() {
        CoverSheet desk = after("0000011", 2);
        desk.setNeed(5, 3, 1);
        desk.setNeed(6, 3, 1);
        for (int day = 0; day <= 6; day++) {
            desk.wish(0, day, true);
        }
        Check.due("plan()", desk.plan(), 0);
        Check.due("the week", Check.week(desk, 0), "0000033");
        Check.due("broken(0)", desk.broken(0), 2);
    }

    // 8: "of several the one with the fewest shifts": a fixed shift that is not needed is no fault of
    // the week, but nothing else is added to it
    private static void fewestShifts() {
        CoverSheet desk = Edge.people(1);
        desk.fix(0, 3, 2);
        desk.setNeed(4, 1, 1);
        Check.due("plan()", desk.plan(), 1);
        Check.due("the fixed shift alone", Check.week(desk, 0), "0002000");
        desk.forbid(2, 1, false);
        Check.due("plan() where early may follow", desk.plan(), 0);
        Check.due("both", Check.week(desk, 0), "0002100");
    }

    // 8: "times the number of weekend shifts of the person in closed weeks": with none it is nothing
    private static void burdenOfNothing() {
        CoverSheet desk = after("0000100", 1);
        Edge.need(desk, 1, "0000101");
        Check.due("weekends(0)", desk.weekends(0), 0);
        Check.due("plan()", desk.plan(), 1);
        Check.due("the order decides", Check.week(desk, 0), "0000001");
        CoverSheet other = new CoverSheet();
        other.addPerson(2, 1);
        other.addPerson(2, 1);
        other.set(1, 6, 1);
        other.closeWeek();
        Edge.need(other, 1, "0000101");
        Check.due("plan() of two", other.plan(), 0);
        Check.due("another's weekend is no burden", Check.week(other, 0), "0000001");
    }

    // 8: "the number of shifts on its weekend": the days 5 and 6, one of them or both
    private static void burdenOfOneAndTwo() {
        CoverSheet desk = after("0000001", 1);
        Edge.need(desk, 1, "0000110");
        desk.plan();
        Check.due("4 is no weekend, 5 is", Check.week(desk, 0), "0000100");
        Edge.need(desk, 1, "1000001");
        desk.plan();
        Check.due("0 is no weekend, 6 is", Check.week(desk, 0), "1000000");
        Edge.need(desk, 1, "0000011");
        desk.plan();
        Check.due("5 is as much as 6", Check.week(desk, 0), "0000001");
        CoverSheet two = after("0000010", 2);
        Edge.need(two, 1, "1000011");
        Check.due("plan() of two shifts", two.plan(), 1);
        Check.due("one on the weekend is less than two", Check.week(two, 0), "1000001");
    }

    // 8: "the least burden [..]; of several the one that breaks the fewest wishes": one unit of burden
    // goes ahead of all wishes
    private static void burdenAheadOfWishes() {
        CoverSheet desk = after("0000001", 3);
        Edge.need(desk, 1, "0011111");
        for (int day = 0; day <= 4; day++) {
            desk.wish(0, day, true);
        }
        Check.due("plan()", desk.plan(), 2);
        Check.due("three wishes", Check.week(desk, 0), "0011100");
        Check.due("broken(0)", desk.broken(0), 3);
        CoverSheet same = after("0000001", 1);
        Edge.need(same, 1, "0000011");
        same.wish(0, 6, true);
        same.plan();
        Check.due("the same burden: wishes decide", Check.week(same, 0), "0000010");
    }

    // 8: "the fewest wishes of the person [..]; of several the first one in the order"
    private static void wishesAheadOfTheOrder() {
        CoverSheet one = Edge.made(made -> made.addPerson(14, 1));
        Edge.need(one, 1, "1000001");
        one.wish(0, 6, true);
        one.plan();
        Check.due("one wish", Check.week(one, 0), "1000000");
        one.wish(0, 0, true);
        one.plan();
        Check.due("a wish on both days", Check.week(one, 0), "0000001");
        one.wish(0, 6, false);
        one.plan();
        Check.due("a wish on the first day", Check.week(one, 0), "0000001");
        CoverSheet desk = Edge.people(2);
        Edge.need(desk, 1, "1000000");
        desk.wish(1, 0, true);
        desk.plan();
        Check.due("another's wish", Check.week(desk, 0), "1000000");
        desk.wish(0, 0, true);
        desk.wish(1, 0, false);
        Check.due("plan() against a wish", desk.plan(), 0);
        Check.due("the first one fills the gap all the same", Check.week(desk, 0), "1000000");
    }

    // "Weeks of a person are ordered by the entry of the first day at which they differ"
    private static void orderByTheFirstDay() {
        for (int day = 0; day <= 5; day++) {
            CoverSheet desk = Edge.made(made -> made.addPerson(14, 1));
            desk.setNeed(day, 1, 1);
            desk.setNeed(day + 1, 3, 1);
            desk.plan();
            Check.due("entry(0, " + day + ")", desk.entry(0, day), 0);
            Check.due("entry(0, " + (day + 1) + ")", desk.entry(0, day + 1), 3);
        }
        CoverSheet first = Edge.made(made -> made.addPerson(14, 1));
        first.setNeed(0, 1, 1);
        first.setNeed(6, 3, 1);
        first.plan();
        Check.due("the first and the last day", Check.week(first, 0), "0000003");
        CoverSheet two = Edge.made(made -> made.addPerson(14, 2));
        Edge.need(two, 1, "1100011");
        two.wish(0, 5, true);
        two.wish(0, 6, true);
        two.wish(0, 0, true);
        two.wish(0, 1, true);
        two.plan();
        Check.due("the last two of four", Check.week(two, 0), "0000011");
    }

    // "the lower entry first": each kind against each other one, on the first and on the last day
    private static void orderByTheEntry() {
        for (int low = 1; low <= 2; low++) {
            for (int high = low + 1; high <= 3; high++) {
                for (int day = 0; day <= 6; day += 6) {
                    CoverSheet desk = Edge.people(2);
                    desk.setNeed(day, low, 1);
                    desk.setNeed(day, high, 1);
                    desk.plan();
                    Check.due("the lower entry", desk.entry(0, day), low);
                    Check.due("what is left", desk.entry(1, day), high);
                }
            }
        }
        // The entry of the first day goes ahead of those of all later ones.
        CoverSheet desk = Edge.people(1);
        desk.forbid(1, 2, true);
        Edge.need(desk, 1, "1000000");
        Edge.need(desk, 2, "1100000");
        Edge.need(desk, 3, "0100000");
        desk.plan();
        Check.due("early and then night, not late and late", Check.week(desk, 0), "1300000");
    }

    // 8: "a greatest number of shifts in a week": 0, 1, 6 and 7
    private static void leastAndGreatestMost() {
        int[] mosts = {0, 1, 6, 7};
        String[] weeks = {"0000000", "0000001", "0111111", "1111111"};
        for (int number = 0; number < mosts.length; number++) {
            CoverSheet desk = new CoverSheet();
            desk.addPerson(2, mosts[number]);
            desk.setRun(7);
            Edge.need(desk, 1, "1111111");
            Check.due("plan() with " + mosts[number], desk.plan(), 7 - mosts[number]);
            Check.due("the week with " + mosts[number], Check.week(desk, 0), weeks[number]);
        }
    }

    // 8: "(the run)": the shortest, the longest that is felt in a week, and one day more
    private static void shortestAndLongestRun() {
        int[] runs = {1, 2, 6, 7, 14};
        String[] weeks = {"1010101", "1011011", "0111111", "1111111", "1111111"};
        int[] gaps = {3, 2, 1, 0, 0};
        for (int number = 0; number < runs.length; number++) {
            CoverSheet desk = new CoverSheet();
            desk.addPerson(2, 7);
            desk.setRun(runs[number]);
            Edge.need(desk, 1, "1111111");
            Check.due("plan() with a run of " + runs[number], desk.plan(), gaps[number]);
            Check.due("the week with a run of " + runs[number], Check.week(desk, 0), weeks[number]);
        }
    }

    // 8: "Both rules look at the weeks that were closed, too"
    private static void planAfterClosedWeeks() {
        CoverSheet desk = after("0000003", 7);
        Edge.need(desk, 1, "1000000");
        Edge.need(desk, 2, "1000000");
        Check.due("plan() after night", desk.plan(), 2);
        Check.due("off", Check.week(desk, 0), "0000000");
        Edge.need(desk, 3, "1000000");
        Check.due("plan() with a night needed", desk.plan(), 2);
        Check.due("night", Check.week(desk, 0), "3000000");
        CoverSheet row = after("0011111", 7);
        Edge.need(row, 1, "1111111");
        row.setRun(5);
        Check.due("plan() after five days", row.plan(), 2);
        Check.due("off on the first day, one on the weekend", Check.week(row, 0), "0111101");
        row.setRun(6);
        Check.due("plan() with a run of six", row.plan(), 1);
        Check.due("the first day, or six in a row", Check.week(row, 0), "0111111");
        CoverSheet long14 = after("1111111", 7);
        Edge.need(long14, 1, "1111111");
        Check.due("plan() of the second week in a row", long14.plan(), 0);
        long14.closeWeek();
        Check.due("plan() of the third week in a row", long14.plan(), 1);
        Check.due("off on the first day", Check.week(long14, 0), "0111111");
    }

    // 8: "A person without a feasible week keeps 0 on all days.": also what is fixed and could be had
    private static void noFeasibleWeek() {
        CoverSheet desk = new CoverSheet();
        desk.addPerson(2, 7);
        desk.addPerson(2, 0);
        desk.addPerson(14, 7);
        Edge.need(desk, 1, "1000001");
        desk.fix(0, 0, 1);
        desk.fix(0, 6, 2);
        desk.fix(1, 0, 1);
        Check.due("plan()", desk.plan(), 0);
        Check.due("no such skill", Check.week(desk, 0), "0000000");
        Check.due("no shift at most", Check.week(desk, 1), "0000000");
        Check.due("the last one has it all", Check.week(desk, 2), "1000001");
        Check.due("isFeasible(0)", desk.isFeasible(0), false);
        Check.due("weeks(0)", desk.weeks(0), 0);
    }

    // 8: the same of everybody, by each rule
    private static void nobodyHasAFeasibleWeek() {
        CoverSheet desk = Edge.people(3);
        desk.set(2, 5, 2);
        desk.set(2, 6, 2);
        desk.closeWeek();
        Edge.need(desk, 1, "1111111");
        desk.setRun(2);
        desk.fix(0, 3, 1);
        desk.fix(0, 4, 1);
        desk.fix(0, 5, 1);
        desk.fix(1, 5, 3);
        desk.fix(1, 6, 1);
        desk.fix(2, 0, 3);
        Check.due("plan()", desk.plan(), 7);
        Check.due("rounds()", desk.rounds(), 1);
        for (int person = 0; person <= 2; person++) {
            Check.due("the week of " + person, Check.week(desk, person), "0000000");
            Check.due("weeksByDays(" + person + ")", desk.weeksByDays(person), 0);
        }
    }

    // 8: where all days are fixed there is one week, or none
    private static void allDaysFixed() {
        CoverSheet desk = Edge.people(1);
        Edge.need(desk, 2, "5555555");
        String week = "1122033";
        for (int day = 0; day <= 6; day++) {
            desk.fix(0, day, week.charAt(day) - '0');
            desk.wish(0, day, true);
        }
        Check.due("plan()", desk.plan(), 33);
        Check.due("the one week", Check.week(desk, 0), week);
        desk.fix(0, 4, 1);
        Check.due("plan() where early follows late", desk.plan(), 35);
        Check.due("no week", Check.week(desk, 0), "0000000");
    }

    // 8: "Returns the gaps then."
    private static void gapsThen() {
        CoverSheet desk = Edge.people(2);
        Edge.need(desk, 3, "5432100");
        Check.due("gaps() ahead of it", desk.gaps(), 15);
        Check.due("plan()", desk.plan(), 6);
        Check.due("gaps() after it", desk.gaps(), 6);
        desk.closeWeek();
        Check.due("gaps() of the next week", desk.gaps(), 15);
    }

    // 9: "0 if there was none"
    private static void roundsAtFirst() {
        CoverSheet desk = Edge.people(8);
        Edge.need(desk, 1, "5555555");
        desk.set(0, 0, 1);
        desk.swap(0, 1, 0);
        desk.closeWeek();
        Check.due("rounds()", desk.rounds(), 0);
    }

    // "The rounds end with one that changes nothing": the first one
    private static void roundsOfOne() {
        CoverSheet nobody = new CoverSheet();
        nobody.setNeed(0, 1, 5);
        nobody.plan();
        Check.due("rounds() of nobody", nobody.rounds(), 1);
        CoverSheet desk = Edge.people(8);
        Edge.work(desk, 7, "1111100");
        desk.plan();
        Check.due("rounds() of nothing needed", desk.rounds(), 1);
    }

    // The same: the second one, and the third
    private static void roundsOfTwoAndThree() {
        CoverSheet desk = Edge.people(8);
        desk.setNeed(6, 3, 1);
        desk.plan();
        Check.due("rounds() of one need", desk.rounds(), 2);
        desk.plan();
        Check.due("rounds() of the same again", desk.rounds(), 2);
        desk.fix(7, 6, 3);
        desk.plan();
        Check.due("rounds() where the last one is fixed", desk.rounds(), 3);
        desk.fix(7, 6, 2);
        desk.plan();
        Check.due("rounds() where the last one is fixed otherwise", desk.rounds(), 2);
    }

    // Late and night are needed, and the third person's late shifts on the weekend are fixed. The two
    // others, who don't know that at first, then move towards the one plan round by round: late may
    // follow night, but night may not follow late.
    private static CoverSheet slowDesk(int firstDay, int most, int nightsOfTheLastDay) {
        CoverSheet desk = new CoverSheet();
        desk.addPerson(14, most);
        desk.addPerson(14, 7);
        desk.addPerson(14, 2);
        desk.forbid(3, 2, false);
        desk.forbid(2, 3, true);
        for (int day = firstDay; day <= 6; day++) {
            desk.setNeed(day, 2, day == 5 ? 2 : 1);
            desk.setNeed(day, 3, day == 6 ? nightsOfTheLastDay : 1);
        }
        desk.fix(2, 5, 2);
        desk.fix(2, 6, 2);
        desk.wish(0, 6, true);
        return desk;
    }

    private static void slowPlan(String what, CoverSheet desk, int gaps, int rounds, String first, String second) {
        Check.due("plan() of " + what, desk.plan(), gaps);
        Check.due("rounds() of " + what, desk.rounds(), rounds);
        Check.due("the first of " + what, Check.week(desk, 0), first);
        Check.due("the second of " + what, Check.week(desk, 1), second);
        Check.due("the third of " + what, Check.week(desk, 2), "0000022");
    }

    // "The rounds end with one that changes nothing": the eighth one, and the ninth
    private static void roundsEndWithNoChange() {
        slowPlan("eight rounds", slowDesk(3, 3, 1), 0, 8, "0002220", "0003333");
        slowPlan("nine rounds", slowDesk(2, 4, 2), 1, 9, "0022220", "0033333");
    }

    // "or with the tenth": both at once
    private static void tenthRoundThatChangesNothing() {
        slowPlan("ten rounds", slowDesk(2, 4, 1), 0, 10, "0022220", "0033333");
    }

    // "or with the tenth": an eleventh would change nothing; an eleventh would still change the first day
    // but one of the first person, and a twelfth would change nothing
    private static void roundsEndWithTheTenth() {
        slowPlan("what would take eleven", slowDesk(1, 5, 2), 2, 10, "0222220", "0033333");
        slowPlan("what would take twelve", slowDesk(1, 5, 1), 1, 10, "0322220", "0033333");
    }

    // 9: "how many rounds the last planning had"
    private static void roundsOfTheLastPlanning() {
        CoverSheet desk = slowDesk(1, 5, 1);
        desk.plan();
        Check.due("rounds()", desk.rounds(), 10);
        desk.plan();
        Check.due("rounds() of the same again", desk.rounds(), 10);
        desk.addPerson(14, 7);
        desk.closeWeek();
        Check.due("rounds() in the next week", desk.rounds(), 10);
        Check.due("a refused call", Check.answer(() -> desk.set(4, 0, 0)), "throws.IndexOutOfBoundsException");
        Check.due("rounds() after a refused call", desk.rounds(), 10);
        for (int kind = 1; kind <= 3; kind++) {
            Edge.need(desk, kind, "0000000");
        }
        Check.due("rounds() ahead of the next planning", desk.rounds(), 10);
        desk.plan();
        Check.due("rounds() of the last planning", desk.rounds(), 1);
    }
}
