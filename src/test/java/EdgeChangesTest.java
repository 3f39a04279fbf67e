/** The boundaries of the promises 10 to 12: set, swap, closeWeek, and what goes on into the next week. */
public final class EdgeChangesTest {
    private EdgeChangesTest() {
    }

    public static void main(String[] args) {
        setEveryEntry();
        setFirstAndLast();
        setLooksAtTheWholeWeek();
        setOutOfAndIntoAWeek();
        setLooksAtOnePerson();
        setMoreThanIsNeeded();
        swapEveryEntry();
        swapFirstAndLast();
        swapLeastAndMostWishes();
        swapWishesOfAllDays();
        swapAgainstSkills();
        swapAgainstTheMost();
        swapAgainstWhatIsFixed();
        swapAgainstForbiddenKinds();
        swapAgainstTheRun();
        swapAgainstClosedWeeks();
        swapOfTheSameEntry();
        closeWithoutPeople();
        closeCountsWeeks();
        closeNotesTheLastEntry();
        closeNotesRows();
        closeNotesWeekends();
        closeClears();
        closeLeavesTheRest();
        closeOfABrokenWeek();
        Check.end("EdgeChangesTest");
    }

    // 10: entry: "0 to 3", "Returns the entry before.": each one after each other one
    private static void setEveryEntry() {
        for (int before = 0; before <= 3; before++) {
            for (int entry = 0; entry <= 3; entry++) {
                CoverSheet desk = Edge.people(1);
                Check.due("set(0, 3, " + before + ")", desk.set(0, 3, before), 0);
                Check.due("set(0, 3, " + entry + ")", desk.set(0, 3, entry), before);
                Check.due("entry(0, 3)", desk.entry(0, 3), entry);
                Check.due("shifts(0)", desk.shifts(0), entry == 0 ? 0 : 1);
            }
        }
    }

    // 10: the first and the last person and day; nothing else is changed
    private static void setFirstAndLast() {
        for (int person = 0; person <= 7; person += 7) {
            for (int day = 0; day <= 6; day += 6) {
                CoverSheet desk = Edge.people(8);
                Check.due("set(" + person + ", " + day + ", 3)", desk.set(person, day, 3), 0);
                for (int other = 0; other <= 7; other++) {
                    String due = other != person ? "0000000" : day == 0 ? "3000000" : "0000003";
                    Check.due("the week of " + other, Check.week(desk, other), due);
                }
            }
        }
    }

    // 10: "if the week of the person would not be feasible": also for another day than the one that is set
    private static void setLooksAtTheWholeWeek() {
        Edge.Maker row = desk -> {
            Edge.add(desk, 1);
            desk.set(0, 0, 1);
            desk.set(0, 1, 1);
            desk.setRun(1);
        };
        Edge.refusesState("a shift elsewhere", row, desk -> desk.set(0, 6, 1));
        Edge.refusesState("off where off is", row, desk -> desk.set(0, 6, 0));
        Edge.refusesState("the entry that is there", row, desk -> desk.set(0, 0, 1));
        Edge.Maker fixed = desk -> {
            Edge.add(desk, 1);
            desk.fix(0, 6, 3);
        };
        Edge.refusesState("off where off is, another day is fixed", fixed, desk -> desk.set(0, 0, 0));
        Check.due("the fixed entry", Edge.made(fixed).set(0, 6, 3), 0);
    }

    // 10: "would not be": what counts is the week then, not the one now
    private static void setOutOfAndIntoAWeek() {
        Edge.Maker maker = desk -> {
            Edge.add(desk, 1);
            Edge.work(desk, 0, "1101000");
            desk.setRun(1);
        };
        CoverSheet desk = Edge.made(maker);
        Check.due("isFeasible(0)", desk.isFeasible(0), false);
        Check.due("off on the second day", desk.set(0, 1, 0), 1);
        Check.due("isFeasible(0) then", desk.isFeasible(0), true);
        Check.due("the fifth day", desk.set(0, 5, 1), 0);
        Edge.refusesState("off on another day", maker, made -> made.set(0, 3, 0));
        Edge.Maker two = made -> {
            Edge.add(made, 1);
            Edge.work(made, 0, "1101100");
            made.setRun(1);
        };
        Edge.refusesState("off on one day of two", two, made -> made.set(0, 0, 0));
    }

    // 10: "the week of the person": another's may be as it likes
    private static void setLooksAtOnePerson() {
        CoverSheet desk = Edge.people(2);
        desk.fix(1, 0, 3);
        Check.due("isFeasible(1)", desk.isFeasible(1), false);
        Check.due("set(0, 0, 1)", desk.set(0, 0, 1), 0);
    }

    // 10: needs and wishes are no rules: nothing needed, and off wished
    private static void setMoreThanIsNeeded() {
        CoverSheet desk = Edge.people(8);
        desk.setNeed(2, 2, 1);
        for (int person = 0; person <= 7; person++) {
            desk.wish(person, 2, true);
            Check.due("set(" + person + ", 2, 2)", desk.set(person, 2, 2), 0);
        }
        Check.due("gap(2, 2)", desk.gap(2, 2), 0);
    }

    // 11: "Lets two people swap their entries for a day.": each entry for each other one
    private static void swapEveryEntry() {
        for (int one = 0; one <= 3; one++) {
            for (int two = 0; two <= 3; two++) {
                CoverSheet desk = Edge.people(2);
                desk.set(0, 3, one);
                desk.set(1, 3, two);
                Check.due("swap(0, 1, 3)", desk.swap(0, 1, 3), 0);
                Check.due("entry(0, 3)", desk.entry(0, 3), two);
                Check.due("entry(1, 3)", desk.entry(1, 3), one);
            }
        }
    }

    // 11: the first and the last person and day, either one named first; nothing else is changed
    private static void swapFirstAndLast() {
        for (int day = 0; day <= 6; day += 6) {
            for (int first = 0; first <= 7; first += 7) {
                CoverSheet desk = Edge.freePeople(8);
                Edge.work(desk, 0, "1111111");
                Edge.work(desk, 7, "3333333");
                Check.due("swap of the first and the last", desk.swap(first, 7 - first, day), 0);
                Check.due("the first", Check.week(desk, 0), day == 0 ? "3111111" : "1111113");
                Check.due("the last", Check.week(desk, 7), day == 0 ? "1333333" : "3333331");
                Check.due("the one between", Check.week(desk, 3), "0000000");
                Check.due("the same again", desk.swap(first, 7 - first, day), 0);
                Check.due("the first as before", Check.week(desk, 0), "1111111");
            }
        }
    }

    // 11: "Returns how many wishes both break then, together.": none, and fourteen
    private static void swapLeastAndMostWishes() {
        CoverSheet desk = Edge.freePeople(2);
        Edge.work(desk, 0, "1111111");
        Edge.work(desk, 1, "3333333");
        Check.due("no wishes", desk.swap(0, 1, 0), 0);
        for (int day = 0; day <= 6; day++) {
            desk.wish(0, day, true);
            Check.due("swap(0, 1, 6), wishes of the one", desk.swap(0, 1, 6), day + 1);
        }
        for (int day = 0; day <= 6; day++) {
            desk.wish(1, day, true);
            Check.due("swap(0, 1, 6), wishes of both", desk.swap(0, 1, 6), day + 8);
        }
    }

    // 11: "then": after the swap, and of the whole week
    private static void swapWishesOfAllDays() {
        CoverSheet desk = Edge.people(3);
        desk.set(0, 0, 1);
        desk.set(0, 6, 1);
        desk.wish(0, 0, true);
        desk.wish(0, 6, true);
        desk.wish(2, 0, true);
        Check.due("a broken wish is left", desk.swap(0, 1, 0), 1);
        Check.due("a wish is broken by it", desk.swap(1, 2, 0), 1);
        Check.due("one wish for another", desk.swap(0, 2, 0), 2);
        Check.due("broken(0)", desk.broken(0), 2);
        Check.due("the other way", desk.swap(0, 2, 0), 2);
        Check.due("nobody's wish", desk.swap(2, 1, 0), 0);
    }

    private static void bothWays(String what, Edge.Maker maker, int day) {
        Edge.refusesState(what, maker, desk -> desk.swap(0, 1, day));
        Edge.refusesState(what + ", the other way", maker, desk -> desk.swap(1, 0, day));
    }

    // 11: "or a week of one of both would not be feasible", by the skills
    private static void swapAgainstSkills() {
        bothWays("swap for what one has no skill for", desk -> {
            desk.addPerson(14, 7);
            desk.addPerson(2, 7);
            desk.set(0, 6, 3);
            desk.set(1, 6, 1);
        }, 6);
    }

    // 11: the same by the number of shifts: at the most, and one below it
    private static void swapAgainstTheMost() {
        for (int most = 1; most <= 2; most++) {
            int told = most;
            Edge.Maker maker = desk -> {
                desk.addPerson(14, told);
                desk.addPerson(14, 7);
                desk.set(0, 0, 1);
                desk.set(1, 6, 1);
            };
            if (most == 1) {
                bothWays("swap for a shift more than the most", maker, 6);
            } else {
                Check.due("swap for the last shift", Edge.made(maker).swap(0, 1, 6), 0);
            }
            Check.due("swap of the one shift", Edge.made(maker).swap(0, 1, 0), 0);
        }
    }

    // 11: the same by what is fixed: of that day, and of another one
    private static void swapAgainstWhatIsFixed() {
        Edge.Maker off = desk -> {
            Edge.add(desk, 2);
            desk.set(0, 6, 1);
            desk.fix(1, 6, 0);
        };
        bothWays("swap for a shift where off is fixed", off, 6);
        Edge.Maker shift = desk -> {
            Edge.add(desk, 2);
            desk.set(0, 6, 1);
            desk.fix(0, 6, 1);
        };
        bothWays("swap away what is fixed", shift, 6);
        Edge.Maker elsewhere = desk -> {
            Edge.add(desk, 2);
            desk.set(0, 6, 1);
            desk.fix(1, 0, 1);
        };
        bothWays("swap of another day than the fixed one", elsewhere, 6);
        Edge.Maker same = desk -> {
            Edge.add(desk, 2);
            desk.set(0, 6, 1);
            desk.fix(1, 6, 1);
            desk.fix(0, 6, 0);
        };
        Check.due("swap for what is fixed for both", Edge.made(same).swap(0, 1, 6), 0);
    }

    // 11: the same by the kinds that are forbidden: on the day ahead, and on the day after
    private static void swapAgainstForbiddenKinds() {
        bothWays("early after late", desk -> {
            Edge.add(desk, 2);
            Edge.work(desk, 0, "0000020");
            Edge.work(desk, 1, "0000001");
        }, 6);
        bothWays("night ahead of late", desk -> {
            Edge.add(desk, 2);
            Edge.work(desk, 0, "3000000");
            Edge.work(desk, 1, "1200000");
        }, 0);
        bothWays("early after late for the one, night ahead of late for the other", desk -> {
            Edge.add(desk, 2);
            Edge.work(desk, 0, "0023000");
            Edge.work(desk, 1, "0001200");
        }, 3);
    }

    // 11: the same by the run: the fifth day in a row is good, the sixth isn't
    private static void swapAgainstTheRun() {
        bothWays("the sixth day in a row", desk -> {
            Edge.add(desk, 2);
            Edge.work(desk, 0, "1111100");
            Edge.work(desk, 1, "0000010");
        }, 5);
        CoverSheet desk = Edge.people(2);
        Edge.work(desk, 0, "0111100");
        Edge.work(desk, 1, "0000010");
        Check.due("the fifth day in a row", desk.swap(0, 1, 5), 0);
        Check.due("the week", Check.week(desk, 0), "0111110");
    }

    // 11: the same by what was noted at the closing
    private static void swapAgainstClosedWeeks() {
        bothWays("early after the last week's night", desk -> {
            Edge.add(desk, 2);
            desk.set(0, 6, 3);
            desk.closeWeek();
            desk.set(0, 0, 3);
            desk.set(1, 0, 1);
        }, 0);
        bothWays("the sixth day in a row across the weeks", desk -> {
            Edge.add(desk, 2);
            Edge.work(desk, 0, "0011111");
            desk.closeWeek();
            desk.set(1, 0, 1);
        }, 0);
        CoverSheet desk = Edge.people(2);
        Edge.work(desk, 0, "0001111");
        desk.closeWeek();
        desk.set(1, 0, 1);
        Check.due("the fifth day in a row across the weeks", desk.swap(0, 1, 0), 0);
    }

    // 11: both have the same entry: the weeks are looked at all the same
    private static void swapOfTheSameEntry() {
        CoverSheet desk = Edge.people(2);
        Check.due("off for off", desk.swap(0, 1, 0), 0);
        desk.set(0, 0, 3);
        desk.set(1, 0, 3);
        desk.wish(0, 0, true);
        Check.due("night for night", desk.swap(0, 1, 0), 1);
        bothWays("off for off where another day is fixed", made -> {
            Edge.add(made, 2);
            made.fix(0, 6, 1);
        }, 0);
    }

    // 12: nobody there
    private static void closeWithoutPeople() {
        CoverSheet desk = new CoverSheet();
        Check.due("the first", desk.closeWeek(), 1);
        Check.due("the second", desk.closeWeek(), 2);
        Check.due("addPerson(14, 7)", desk.addPerson(14, 7), 0);
        Check.due("runBefore(0)", desk.runBefore(0), 0);
        Check.due("weekends(0)", desk.weekends(0), 0);
    }

    // 12: "Returns how many weeks are closed then.": whatever is in them
    private static void closeCountsWeeks() {
        CoverSheet desk = Edge.people(8);
        for (int week = 1; week <= 20; week++) {
            if (week % 3 == 0) {
                desk.plan();
            }
            Check.due("closeWeek()", desk.closeWeek(), week);
        }
    }

    // 12: "what the last entries were": the day 6 alone, of the last week alone
    private static void closeNotesTheLastEntry() {
        String[] weeks = {"3333000", "0000030", "0000003", "0000002", "0000001"};
        int[] takers = {3, 3, 2, 2, 3};
        for (int number = 0; number < weeks.length; number++) {
            CoverSheet desk = Edge.people(2);
            Edge.work(desk, 0, weeks[number]);
            desk.closeWeek();
            Check.due("who could take early after " + weeks[number], desk.couldTake(0, 1), takers[number]);
            Check.due("who could take night after " + weeks[number], desk.couldTake(0, 3), 3);
            desk.closeWeek();
            Check.due("who could take early a week later", desk.couldTake(0, 1), 3);
        }
    }

    // 12: "how many days in a row everybody has worked": none, one, seven, eight and fourteen
    private static void closeNotesRows() {
        CoverSheet desk = Edge.freePeople(5);
        String[] first = {"1111110", "0000001", "1111111", "0000001", "1111111"};
        String[] second = {"0000000", "0000000", "0000000", "1111111", "1111111"};
        int[] afterFirst = {0, 1, 7, 1, 7};
        int[] afterSecond = {0, 0, 0, 8, 14};
        for (int person = 0; person < 5; person++) {
            Edge.work(desk, person, first[person]);
        }
        desk.closeWeek();
        for (int person = 0; person < 5; person++) {
            Check.due("runBefore(" + person + ")", desk.runBefore(person), afterFirst[person]);
            Edge.work(desk, person, second[person]);
        }
        desk.closeWeek();
        for (int person = 0; person < 5; person++) {
            Check.due("runBefore(" + person + ") then", desk.runBefore(person), afterSecond[person]);
        }
        desk.closeWeek();
        for (int person = 0; person < 5; person++) {
            Check.due("runBefore(" + person + ") at last", desk.runBefore(person), 0);
        }
    }

    // 12: "and weekend shifts are noted": none, one or two in a week, and they add up
    private static void closeNotesWeekends() {
        CoverSheet desk = Edge.people(4);
        String[] weeks = {"1111100", "0000010", "0000001", "0000011"};
        int[] shifts = {0, 1, 1, 2};
        for (int week = 1; week <= 3; week++) {
            for (int person = 0; person < 4; person++) {
                Edge.work(desk, person, weeks[person]);
                Check.due("weekends(" + person + ") ahead", desk.weekends(person), (week - 1) * shifts[person]);
            }
            desk.closeWeek();
            for (int person = 0; person < 4; person++) {
                Check.due("weekends(" + person + ")", desk.weekends(person), week * shifts[person]);
            }
        }
    }

    // 12: "entries, wishes and what is fixed are cleared": of all people and days
    private static void closeClears() {
        CoverSheet desk = Edge.freePeople(8);
        for (int person = 0; person <= 7; person++) {
            Edge.work(desk, person, "1231231");
            for (int day = 0; day <= 6; day++) {
                desk.wish(person, day, true);
                desk.fix(person, day, (person + day) % 4);
            }
        }
        desk.closeWeek();
        for (int person = 0; person <= 7; person++) {
            for (int day = 0; day <= 6; day++) {
                Check.due("entry(" + person + ", " + day + ")", desk.entry(person, day), 0);
                Check.due("wish(" + person + ", " + day + ", false)", desk.wish(person, day, false), false);
                Check.due("fix(" + person + ", " + day + ", -1)", desk.fix(person, day, -1), CoverSheet.NONE);
            }
        }
    }

    // 12: nothing else is cleared: people, skills, the most, needs, rules, the run, rounds
    private static void closeLeavesTheRest() {
        CoverSheet desk = new CoverSheet();
        desk.addPerson(2, 0);
        desk.addPerson(8, 7);
        desk.setNeed(6, 3, 5);
        desk.forbid(3, 3, true);
        desk.forbid(3, 1, false);
        desk.setRun(14);
        desk.plan();
        Check.due("rounds() ahead", desk.rounds(), 2);
        desk.closeWeek();
        Check.due("people()", desk.people(), 2);
        Check.due("weeks(0)", desk.weeks(0), 1);
        Check.due("couldTake(3, 1)", desk.couldTake(3, 1), 0);
        Check.due("couldTake(3, 3)", desk.couldTake(3, 3), 2);
        Check.due("gap(6, 3)", desk.gap(6, 3), 5);
        Check.due("forbid(3, 3, true)", desk.forbid(3, 3, true), false);
        Check.due("forbid(3, 1, true)", desk.forbid(3, 1, true), true);
        Check.due("setRun(14)", desk.setRun(14), 14);
        Check.due("rounds()", desk.rounds(), 2);
    }

    // 12: a week that is not feasible is closed as it is
    private static void closeOfABrokenWeek() {
        CoverSheet desk = Edge.freePeople(2);
        Edge.work(desk, 0, "1111111");
        desk.setRun(2);
        desk.fix(0, 0, 0);
        desk.fix(1, 0, 3);
        Check.due("isFeasible(0)", desk.isFeasible(0), false);
        Check.due("isFeasible(1)", desk.isFeasible(1), false);
        Check.due("closeWeek()", desk.closeWeek(), 1);
        Check.due("runBefore(0)", desk.runBefore(0), 7);
        Check.due("runBefore(1)", desk.runBefore(1), 0);
        Check.due("weekends(0)", desk.weekends(0), 2);
        Check.due("isFeasible(0) then", desk.isFeasible(0), true);
        Check.due("isFeasible(1) then", desk.isFeasible(1), true);
    }
}
