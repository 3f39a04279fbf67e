/** The boundaries of the promises 21 to 26: what is possible. */
public final class EdgePossibleTest {
    private EdgePossibleTest() {
    }

    public static void main(String[] args) {
        feasibleWithoutShifts();
        feasibleAtTheRun();
        feasibleAtForbiddenKinds();
        feasibleAtWhatIsFixed();
        feasibleAfterClosedWeeks();
        weeksFrom0To16384();
        weeksAtTheMost();
        weeksAtTheRun();
        weeksOfSkills();
        weeksOfFixedDays();
        weeksOfForbiddenKinds();
        weeksAfterARow();
        weeksAfterALastEntry();
        weeksOfWhatIsNoRule();
        countsChangeNothing();
        takersFromNoneToAll();
        takersOfTheFirstAndTheLast();
        takersWhoAreOff();
        takersAtTheMost();
        takersAtWhatIsFixed();
        takersAtForbiddenKinds();
        takersAtTheRun();
        takersAfterClosedWeeks();
        takersOfWhatIsNoRule();
        swapForNobody();
        swapForTheFirstAndTheLast();
        swapForAnotherEntry();
        swapForTheFewestShifts();
        swapForTheLowest();
        swapForWhoeverCould();
        swapForOfAnOwnWeekThatCouldNot();
        swapForAcrossWeeks();
        swapForChangesNothing();
        boundOfNobody();
        boundAtTheNeed();
        boundOfTheFullDesk();
        boundOfEachSkill();
        boundOfOneShiftADay();
        boundOfSharedSkills();
        boundLooksAtNothingElse();
        Check.end("EdgePossibleTest");
    }

    // 21: no shifts at all
    private static void feasibleWithoutShifts() {
        CoverSheet desk = new CoverSheet();
        desk.addPerson(2, 0);
        desk.setRun(1);
        for (int pair = 0; pair < 9; pair++) {
            desk.forbid(1 + pair / 3, 1 + pair % 3, true);
        }
        Check.due("isFeasible(0)", desk.isFeasible(0), true);
        desk.closeWeek();
        Check.due("isFeasible(0) in the next week", desk.isFeasible(0), true);
    }

    // 21: "as it is": a row as long as the run, one longer, and one shorter
    private static void feasibleAtTheRun() {
        String[] weeks = {"0001110", "1110000", "0000111", "1110111"};
        for (String week : weeks) {
            CoverSheet desk = Edge.people(1);
            Edge.work(desk, 0, week);
            desk.setRun(2);
            Check.due(week + " with a run of 2", desk.isFeasible(0), false);
            desk.setRun(3);
            Check.due(week + " with a run of 3", desk.isFeasible(0), true);
            desk.setRun(4);
            Check.due(week + " with a run of 4", desk.isFeasible(0), true);
        }
    }

    // 21: the first two days, the last two, and two with a day off between
    private static void feasibleAtForbiddenKinds() {
        String[] weeks = {"1200000", "0000012", "1020000", "2100000"};
        boolean[] due = {false, false, true, true};
        for (int number = 0; number < weeks.length; number++) {
            CoverSheet desk = Edge.freePeople(1);
            Edge.work(desk, 0, weeks[number]);
            desk.forbid(1, 2, true);
            Check.due(weeks[number] + " where late may not follow early", desk.isFeasible(0), due[number]);
        }
    }

    // 21: each day fixed as it is, and each one otherwise
    private static void feasibleAtWhatIsFixed() {
        for (int day = 0; day <= 6; day++) {
            for (int fixed = -1; fixed <= 3; fixed++) {
                CoverSheet desk = Edge.people(2);
                Edge.work(desk, 0, "1012023");
                desk.fix(0, day, fixed);
                int entry = desk.entry(0, day);
                Check.due(entry + " on the day " + day + " where " + fixed + " is fixed",
                        desk.isFeasible(0), fixed == -1 || fixed == entry);
                Check.due("the other", desk.isFeasible(1), true);
            }
        }
    }

    // 21: "Both rules look at the weeks that were closed, too"
    private static void feasibleAfterClosedWeeks() {
        CoverSheet desk = Edge.freePeople(1);
        Edge.work(desk, 0, "0000023");
        desk.closeWeek();
        desk.set(0, 0, 1);
        Check.due("isFeasible(0)", desk.isFeasible(0), true);
        desk.setRun(3);
        Check.due("three days in a row with a run of three", desk.isFeasible(0), true);
        desk.setRun(2);
        Check.due("three days in a row with a run of two", desk.isFeasible(0), false);
        desk.setRun(14);
        desk.forbid(2, 1, true);
        Check.due("early may not follow late, but night was the last", desk.isFeasible(0), true);
        desk.forbid(3, 1, true);
        Check.due("early may not follow night", desk.isFeasible(0), false);
        desk.closeWeek();
        Check.due("an empty week after it", desk.isFeasible(0), true);
    }

    private static void counts(String what, CoverSheet desk, int person, int due) {
        Check.due("22 weeks(" + person + ") of " + what, desk.weeks(person), due);
        Check.due("23 weeksByDays(" + person + ") of " + what, desk.weeksByDays(person), due);
    }

    // 22 and 23: none, one, and all of them; the last person
    private static void weeksFrom0To16384() {
        CoverSheet desk = Edge.freePeople(7);
        desk.addPerson(2, 0);
        counts("all free", desk, 0, 16384);
        counts("no shift at most", desk, 7, 1);
        desk.fix(7, 6, 1);
        counts("a shift fixed where none is the most", desk, 7, 0);
        counts("the one beside", desk, 6, 16384);
    }

    // 22 and 23: "at most as many shifts as told": 0 to 7, with one kind and with three
    private static void weeksAtTheMost() {
        int[] ofOneKind = {1, 8, 29, 64, 99, 120, 127, 128};
        int[] ofThreeKinds = {1, 22, 211, 1156, 3991, 9094, 14197, 16384};
        for (int most = 0; most <= 7; most++) {
            CoverSheet desk = Edge.freePeople(0);
            desk.addPerson(8, most);
            desk.addPerson(14, most);
            counts("one kind, " + most + " shifts", desk, 0, ofOneKind[most]);
            counts("three kinds, " + most + " shifts", desk, 1, ofThreeKinds[most]);
        }
    }

    // 22 and 23: rows of days: the shortest run, the longest in a week, and the longest of all
    private static void weeksAtTheRun() {
        int[] weeks = {34, 81, 108, 120, 125, 127, 128, 128, 128, 128, 128, 128, 128, 128};
        for (int days = 1; days <= 14; days++) {
            CoverSheet desk = new CoverSheet();
            desk.addPerson(4, 7);
            desk.setRun(days);
            counts("a run of " + days, desk, 0, weeks[days - 1]);
        }
    }

    // 22 and 23: "all shifts are among the skills": one, two or three kinds
    private static void weeksOfSkills() {
        for (int skills = 2; skills <= 14; skills += 2) {
            CoverSheet desk = Edge.freePeople(0);
            desk.addPerson(skills, 7);
            int kinds = Integer.bitCount(skills);
            counts("the skills " + skills, desk, 0, kinds == 1 ? 128 : kinds == 2 ? 2187 : 16384);
        }
    }

    // 22 and 23: "no entry differs from one that is fixed": no day to all of them
    private static void weeksOfFixedDays() {
        CoverSheet desk = Edge.freePeople(1);
        int due = 16384;
        for (int day = 0; day <= 6; day++) {
            desk.fix(0, day, day % 4);
            due /= 4;
            counts(day + 1 + " fixed days", desk, 0, due);
        }
        desk.forbid(3, 2, true);
        counts("seven fixed days, off after night", desk, 0, 1);
        desk.forbid(1, 2, true);
        counts("seven fixed days, late after early", desk, 0, 0);
    }

    // 22 and 23: "no rule is broken": a kind that may not follow itself, and one that nothing may follow
    private static void weeksOfForbiddenKinds() {
        CoverSheet desk = Edge.freePeople(0);
        desk.addPerson(2, 7);
        desk.addPerson(6, 7);
        counts("two kinds", desk, 1, 2187);
        desk.forbid(1, 1, true);
        counts("early never after early", desk, 0, 34);
        desk.forbid(1, 2, true);
        desk.forbid(2, 1, true);
        desk.forbid(2, 2, true);
        // No two days in a row: 1, 7, 15, 10 and 1 sets of 0 to 4 days, of two kinds each.
        counts("no two days in a row, two kinds", desk, 1, 1 + 7 * 2 + 15 * 4 + 10 * 8 + 16);
    }

    // 22 and 23: after a row of 0 to 14 days: one more is good up to the run
    private static void weeksAfterARow() {
        int[] tooLong = {0, 0, 0, 0, 0, 0, 0, 0, 1, 2, 4, 8, 16, 32, 64};
        for (int row = 0; row <= 14; row++) {
            CoverSheet desk = new CoverSheet();
            desk.addPerson(2, 7);
            desk.setRun(14);
            for (int day = 14 - row; day < 14; day++) {
                if (day == 7 && row > 7) {
                    desk.closeWeek();
                }
                desk.set(0, day % 7, 1);
            }
            desk.closeWeek();
            Check.due("runBefore(0)", desk.runBefore(0), row);
            counts("a row of " + row, desk, 0, 128 - tooLong[row]);
            desk.setRun(1);
            counts("a row of " + row + " with a run of 1", desk, 0, row == 0 ? 34 : 21);
        }
    }

    // 22 and 23: after each last entry
    private static void weeksAfterALastEntry() {
        String[] last = {"0000000", "0000001", "0000002", "0000003"};
        int[] firstEntries = {4, 4, 3, 2};
        for (int entry = 0; entry <= 3; entry++) {
            CoverSheet desk = Edge.people(1);
            Edge.work(desk, 0, last[entry]);
            desk.closeWeek();
            for (int day = 1; day <= 6; day++) {
                desk.fix(0, day, 0);
            }
            counts("a first day after " + entry, desk, 0, firstEntries[entry]);
            desk.closeWeek();
            counts("a week after a week off", desk, 0, Edge.people(1).weeks(0));
        }
    }

    // 22 and 23: needs, wishes and the roster are no part of it
    private static void weeksOfWhatIsNoRule() {
        CoverSheet desk = Edge.freePeople(2);
        Edge.need(desk, 1, "5555555");
        for (int day = 0; day <= 6; day++) {
            desk.wish(0, day, true);
        }
        Edge.work(desk, 0, "1231231");
        desk.plan();
        counts("much that is no rule", desk, 0, 16384);
        counts("the other", desk, 1, 16384);
    }

    // 22 to 24 and 26: what is asked changes nothing
    private static void countsChangeNothing() {
        CoverSheet desk = Edge.made(Edge::busy);
        for (int number = 0; number <= 2; number++) {
            int person = number;
            Edge.asks("weeks(" + person + ")", desk.weeksByDays(person), Edge::busy, made -> made.weeks(person));
            Edge.asks("weeksByDays(" + person + ")", desk.weeks(person), Edge::busy,
                    made -> made.weeksByDays(person));
        }
        for (int number = 1; number <= 3; number++) {
            int kind = number;
            Edge.asks("couldTake(6, " + kind + ")", desk.couldTake(6, kind), Edge::busy,
                    made -> made.couldTake(6, kind));
        }
        Edge.asks("bound()", desk.bound(), Edge::busy, made -> made.bound());
    }

    // 24: "Returns the set of them, the bit p for the person p.": none of 0 to 8, and all of them
    private static void takersFromNoneToAll() {
        for (int people = 0; people <= 8; people++) {
            CoverSheet desk = Edge.people(people);
            for (int kind = 1; kind <= 3; kind++) {
                Check.due("couldTake(0, " + kind + ")", desk.couldTake(0, kind), (1 << people) - 1);
                Check.due("couldTake(6, " + kind + ")", desk.couldTake(6, kind), (1 << people) - 1);
            }
            for (int person = 0; person < people; person++) {
                desk.set(person, 6, 1);
            }
            Check.due("couldTake(6, 3) where all work", desk.couldTake(6, 3), 0);
        }
    }

    // 24: the first person alone, and the last one
    private static void takersOfTheFirstAndTheLast() {
        CoverSheet desk = new CoverSheet();
        desk.addPerson(2, 1);
        for (int person = 1; person <= 6; person++) {
            desk.addPerson(4, 1);
        }
        desk.addPerson(8, 1);
        Check.due("couldTake(6, 1)", desk.couldTake(6, 1), 1);
        Check.due("couldTake(6, 2)", desk.couldTake(6, 2), 126);
        Check.due("couldTake(6, 3)", desk.couldTake(6, 3), 128);
    }

    // 24: "who is off on a day": not who has that kind, or another one
    private static void takersWhoAreOff() {
        for (int entry = 0; entry <= 3; entry++) {
            for (int kind = 1; kind <= 3; kind++) {
                CoverSheet desk = Edge.people(2);
                desk.set(1, 3, entry);
                Check.due("couldTake(3, " + kind + ") where one has " + entry,
                        desk.couldTake(3, kind), entry == 0 ? 3 : 1);
            }
        }
    }

    // 24: "so that the own week was feasible": the number of shifts at the most, and one below it
    private static void takersAtTheMost() {
        for (int most = 0; most <= 7; most++) {
            CoverSheet desk = new CoverSheet();
            desk.addPerson(2, most);
            desk.setRun(7);
            for (int shifts = 0; shifts <= most && shifts <= 6; shifts++) {
                Check.due("couldTake(6, 1) of " + most + " with " + shifts,
                        desk.couldTake(6, 1), shifts < most ? 1 : 0);
                if (shifts < most && shifts < 6) {
                    desk.set(0, shifts, 1);
                }
            }
        }
    }

    // 24: the same of what is fixed: none, off, that kind, another one; and another day that differs
    private static void takersAtWhatIsFixed() {
        int[] due = {1, 0, 0, 1, 0};
        for (int fixed = -1; fixed <= 3; fixed++) {
            CoverSheet desk = Edge.people(1);
            desk.fix(0, 6, fixed);
            Check.due("couldTake(6, 2) where " + fixed + " is fixed", desk.couldTake(6, 2), due[fixed + 1]);
            Check.due("couldTake(5, 2) beside it", desk.couldTake(5, 2), fixed <= 0 ? 1 : 0);
        }
    }

    // 24: the same of the kinds that are forbidden: the day ahead, the day after, and the second day
    private static void takersAtForbiddenKinds() {
        CoverSheet desk = Edge.people(1);
        desk.set(0, 3, 2);
        Check.due("late ahead of late", desk.couldTake(2, 2), 1);
        Check.due("night ahead of late", desk.couldTake(2, 3), 0);
        Check.due("late after late", desk.couldTake(4, 2), 1);
        Check.due("early after late", desk.couldTake(4, 1), 0);
        Check.due("early two days after late", desk.couldTake(5, 1), 1);
        Check.due("night two days ahead of late", desk.couldTake(1, 3), 1);
    }

    // 24: the same of the run: as long as the run, and one day longer, at either end and between
    private static void takersAtTheRun() {
        String[] weeks = {"0111100", "0111110", "0011111", "1101110", "1101100", "1111000"};
        int[] days = {5, 6, 1, 2, 2, 4};
        int[] due = {1, 0, 0, 0, 1, 1};
        for (int number = 0; number < weeks.length; number++) {
            CoverSheet desk = Edge.people(1);
            Edge.work(desk, 0, weeks[number]);
            Check.due("who could take the day " + days[number] + " of " + weeks[number],
                    desk.couldTake(days[number], 1), due[number]);
        }
    }

    // 24: the same of what was noted at the closing
    private static void takersAfterClosedWeeks() {
        CoverSheet desk = Edge.people(4);
        Edge.work(desk, 0, "0011111");
        Edge.work(desk, 1, "0001111");
        Edge.work(desk, 2, "0000003");
        desk.closeWeek();
        Check.due("couldTake(0, 1)", desk.couldTake(0, 1), 2 + 8);
        Check.due("couldTake(0, 3)", desk.couldTake(0, 3), 2 + 4 + 8);
        Check.due("couldTake(1, 1)", desk.couldTake(1, 1), 15);
        desk.set(1, 0, 1);
        Check.due("couldTake(1, 1) after the fifth day", desk.couldTake(1, 1), 1 + 4 + 8);
    }

    // 24: nothing needed, off wished: they could all the same
    private static void takersOfWhatIsNoRule() {
        CoverSheet desk = Edge.people(8);
        for (int person = 0; person <= 7; person++) {
            desk.wish(person, 6, true);
        }
        Check.due("couldTake(6, 3)", desk.couldTake(6, 3), 255);
    }

    // 25: "NONE if there is none.": nobody else, and nobody with another entry
    private static void swapForNobody() {
        CoverSheet alone = Edge.people(1);
        alone.set(0, 0, 1);
        Check.due("swapFor(0, 0) of one person", alone.swapFor(0, 0), CoverSheet.NONE);
        for (int entry = 0; entry <= 3; entry++) {
            CoverSheet desk = Edge.people(8);
            for (int person = 0; person <= 7; person++) {
                desk.set(person, 6, entry);
            }
            Check.due("swapFor(0, 6) where all have " + entry, desk.swapFor(0, 6), CoverSheet.NONE);
            Check.due("swapFor(7, 6) where all have " + entry, desk.swapFor(7, 6), CoverSheet.NONE);
        }
    }

    // 25: the first and the last person and day, as the one who asks and as the other one
    private static void swapForTheFirstAndTheLast() {
        for (int day = 0; day <= 6; day += 6) {
            CoverSheet desk = Edge.people(8);
            desk.set(0, day, 3);
            Check.due("swapFor(7, " + day + ")", desk.swapFor(7, day), 0);
            Check.due("swapFor(0, " + day + ")", desk.swapFor(0, day), 1);
            for (int person = 1; person <= 6; person++) {
                desk.set(person, day, 3);
            }
            Check.due("swapFor(0, " + day + ") where the last one is off", desk.swapFor(0, day), 7);
            Check.due("swapFor(7, " + day + ") where all others work", desk.swapFor(7, day), 0);
        }
    }

    // 25: "so that both have another entry then": each entry with each other one
    private static void swapForAnotherEntry() {
        for (int one = 0; one <= 3; one++) {
            for (int two = 0; two <= 3; two++) {
                CoverSheet desk = Edge.people(2);
                desk.set(0, 3, one);
                desk.set(1, 3, two);
                Check.due("swapFor(0, 3), " + one + " for " + two,
                        desk.swapFor(0, 3), one == two ? CoverSheet.NONE : 1);
                Check.due("swapFor(1, 3), " + two + " for " + one,
                        desk.swapFor(1, 3), one == two ? CoverSheet.NONE : 0);
            }
        }
    }

    // 25: "of several the one with the fewest shifts": one less is enough, none to seven
    private static void swapForTheFewestShifts() {
        for (int shifts = 1; shifts <= 7; shifts++) {
            CoverSheet desk = Edge.freePeople(3);
            desk.set(0, 6, 3);
            for (int day = 6; day > 6 - shifts; day--) {
                desk.set(1, day, 1);
            }
            if (shifts > 1) {
                for (int day = 6; day > 7 - shifts; day--) {
                    desk.set(2, day, 1);
                }
            }
            Check.due("swapFor(0, 6), " + shifts + " shifts against one less", desk.swapFor(0, 6), 2);
            desk.set(2, 7 - shifts, 1);
            Check.due("swapFor(0, 6), " + shifts + " shifts of both", desk.swapFor(0, 6), 1);
        }
    }

    // 25: "of several the lowest": of those with the fewest shifts, not of all
    private static void swapForTheLowest() {
        CoverSheet desk = Edge.people(8);
        desk.set(7, 3, 1);
        Check.due("swapFor(7, 3)", desk.swapFor(7, 3), 0);
        for (int person = 0; person <= 5; person++) {
            desk.set(person, 0, 1);
            Check.due("swapFor(7, 3) where " + person + " has a shift more", desk.swapFor(7, 3), person + 1);
        }
        desk.set(6, 0, 1);
        Check.due("swapFor(7, 3) where all have a shift more", desk.swapFor(7, 3), 0);
        desk.set(0, 6, 1);
        Check.due("swapFor(7, 3) where the first has two", desk.swapFor(7, 3), 1);
    }

    // 25: "both weeks were feasible": who could not is passed over, for each reason
    private static void swapForWhoeverCould() {
        CoverSheet desk = new CoverSheet();
        desk.addPerson(14, 7);
        desk.addPerson(2, 7);
        desk.addPerson(14, 0);
        desk.addPerson(14, 7);
        desk.addPerson(14, 7);
        desk.addPerson(14, 7);
        desk.addPerson(14, 7);
        desk.addPerson(14, 7);
        desk.set(0, 5, 3);
        desk.fix(3, 5, 0);
        desk.fix(4, 0, 1);
        desk.set(5, 6, 2);
        Edge.work(desk, 6, "1111100");
        Edge.work(desk, 7, "0111100");
        Check.due("no skill, no shift, fixed, fixed elsewhere, late after night, six days", desk.swapFor(0, 5), 7);
        desk.fix(7, 5, 0);
        Check.due("nobody at all", desk.swapFor(0, 5), CoverSheet.NONE);
        desk.setRun(6);
        Check.due("six days are good then", desk.swapFor(0, 5), 6);
        desk.forbid(3, 2, false);
        Check.due("late may follow night then", desk.swapFor(0, 5), 5);
        desk.fix(3, 5, CoverSheet.NONE);
        Check.due("nothing fixed then", desk.swapFor(0, 5), 3);
    }

    // 25: "both weeks": the own one, too
    private static void swapForOfAnOwnWeekThatCouldNot() {
        CoverSheet desk = new CoverSheet();
        desk.addPerson(2, 2);
        desk.addPerson(14, 7);
        desk.set(1, 6, 3);
        Check.due("no skill", desk.swapFor(0, 6), CoverSheet.NONE);
        desk.set(1, 6, 1);
        Check.due("a skill", desk.swapFor(0, 6), 1);
        Edge.work(desk, 0, "1010000");
        Check.due("no shift more", desk.swapFor(0, 6), CoverSheet.NONE);
        desk.set(0, 0, 0);
        Check.due("a shift more", desk.swapFor(0, 6), 1);
        desk.fix(0, 6, 0);
        Check.due("off is fixed", desk.swapFor(0, 6), CoverSheet.NONE);
        desk.fix(0, 6, 1);
        Check.due("early is fixed", desk.swapFor(0, 6), 1);
        desk.fix(0, 1, 1);
        Check.due("another day is fixed otherwise", desk.swapFor(0, 6), CoverSheet.NONE);
    }

    // 25: what was noted at the closing, of the own week and of the other one
    private static void swapForAcrossWeeks() {
        CoverSheet desk = Edge.people(4);
        Edge.work(desk, 0, "0011111");
        desk.set(1, 6, 3);
        Edge.work(desk, 2, "0001111");
        desk.closeWeek();
        desk.set(3, 0, 1);
        Check.due("neither a sixth day nor early after night", desk.swapFor(3, 0), 2);
        Check.due("the own sixth day", desk.swapFor(0, 0), CoverSheet.NONE);
        Check.due("the own early after night", desk.swapFor(1, 0), CoverSheet.NONE);
        Check.due("the own fifth day", desk.swapFor(2, 0), 3);
    }

    // 25: what is asked changes nothing
    private static void swapForChangesNothing() {
        CoverSheet desk = Edge.made(Edge::busy);
        for (int day = 0; day <= 6; day++) {
            int when = day;
            Edge.asks("swapFor(0, " + day + ")", desk.swapFor(0, day), Edge::busy,
                    made -> made.swapFor(0, when));
        }
    }

    // 26: nobody there, with nothing needed and with the most
    private static void boundOfNobody() {
        CoverSheet desk = new CoverSheet();
        Check.due("bound() of nothing needed", desk.bound(), 0);
        for (int kind = 1; kind <= 3; kind++) {
            Edge.need(desk, kind, "5555555");
            Check.due("bound() up to the kind " + kind, desk.bound(), 35 * kind);
        }
    }

    // 26: one person less than needed, as many, and one more; on the first and on the last day
    private static void boundAtTheNeed() {
        for (int need = 0; need <= 5; need++) {
            for (int people = 0; people <= 8; people++) {
                CoverSheet desk = Edge.people(people);
                desk.setNeed(0, 1, need);
                desk.setNeed(6, 3, need);
                Check.due("bound() of " + people + " where " + need + " are needed", desk.bound(),
                        2 * Math.max(0, need - people));
            }
        }
    }

    // 26: the desk full and the most needed: eight of fifteen places on each day
    private static void boundOfTheFullDesk() {
        CoverSheet desk = Edge.people(8);
        Check.due("bound() of nothing needed", desk.bound(), 0);
        for (int kind = 1; kind <= 3; kind++) {
            Edge.need(desk, kind, "5555555");
        }
        Check.due("bound()", desk.bound(), 49);
        for (int kind = 1; kind <= 3; kind++) {
            Edge.need(desk, kind, kind == 1 ? "2222222" : "3333333");
        }
        Check.due("bound() of eight needed", desk.bound(), 0);
        desk.setNeed(6, 1, 3);
        Check.due("bound() of nine needed on a day", desk.bound(), 1);
    }

    // 26: "if only the skills were looked at": each set of skills for each kind
    private static void boundOfEachSkill() {
        for (int skills = 2; skills <= 14; skills += 2) {
            for (int kind = 1; kind <= 3; kind++) {
                CoverSheet desk = new CoverSheet();
                desk.addPerson(skills, 7);
                desk.setNeed(6, kind, 1);
                Check.due("bound() of " + skills + " for " + kind, desk.bound(), 1 - (skills >> kind & 1));
            }
        }
    }

    // 26: "that nobody has two shifts on a day": but one on each day
    private static void boundOfOneShiftADay() {
        CoverSheet desk = Edge.people(1);
        for (int kind = 1; kind <= 3; kind++) {
            Edge.need(desk, kind, "1000000");
        }
        Check.due("bound() of three kinds on a day", desk.bound(), 2);
        for (int kind = 1; kind <= 3; kind++) {
            Edge.need(desk, kind, kind == 1 ? "1001001" : kind == 2 ? "0100100" : "0010010");
        }
        Check.due("bound() of a kind on each day", desk.bound(), 0);
        Edge.need(desk, 1, "2000000");
        Check.due("bound() of two of a kind", desk.bound(), 1);
    }

    // 26: "the least gaps that would be possible": skills are shared so that the most places are filled
    private static void boundOfSharedSkills() {
        int[][] people = {{6, 2}, {6, 4}, {10, 8}, {12, 4}, {14, 2}};
        int[][] needs = {{1, 1, 0}, {1, 1, 0}, {1, 0, 1}, {0, 1, 1}, {1, 1, 0}};
        for (int number = 0; number < people.length; number++) {
            for (int first = 0; first <= 1; first++) {
                CoverSheet desk = new CoverSheet();
                desk.addPerson(people[number][first], 7);
                desk.addPerson(people[number][1 - first], 7);
                for (int kind = 1; kind <= 3; kind++) {
                    desk.setNeed(3, kind, needs[number][kind - 1]);
                }
                Check.due("bound() of the pair " + number, desk.bound(), 0);
                for (int kind = 1; kind <= 3; kind++) {
                    desk.setNeed(3, kind, 1);
                }
                Check.due("bound() of the pair " + number + " for three", desk.bound(), 1);
            }
        }
        CoverSheet narrow = new CoverSheet();
        narrow.addPerson(2, 7);
        narrow.addPerson(2, 7);
        narrow.addPerson(12, 7);
        narrow.setNeed(6, 1, 1);
        narrow.setNeed(6, 2, 1);
        narrow.setNeed(6, 3, 1);
        Check.due("bound() of two who can do the same alone", narrow.bound(), 1);
        narrow.setNeed(6, 1, 3);
        narrow.setNeed(6, 2, 0);
        Check.due("bound() of too many of one kind", narrow.bound(), 1);
    }

    // 26: "not the rules, the numbers of shifts and what is fixed": nor the roster and the closed weeks
    private static void boundLooksAtNothingElse() {
        CoverSheet desk = new CoverSheet();
        desk.addPerson(14, 0);
        desk.addPerson(14, 7);
        desk.setRun(1);
        for (int pair = 0; pair < 9; pair++) {
            desk.forbid(1 + pair / 3, 1 + pair % 3, true);
        }
        desk.set(1, 6, 3);
        desk.closeWeek();
        Edge.need(desk, 1, "2222222");
        for (int day = 0; day <= 6; day++) {
            desk.fix(0, day, 3);
            desk.fix(1, day, 0);
            desk.wish(1, day, true);
        }
        Check.due("bound()", desk.bound(), 0);
        Check.due("plan()", desk.plan(), 14);
        Check.due("bound() of the planned week", desk.bound(), 0);
        desk.setNeed(0, 2, 1);
        Check.due("bound() of one need more", desk.bound(), 1);
    }
}
