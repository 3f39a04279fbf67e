/** The boundaries of the promises 1 to 7 at which a call is still good; EdgeRefusalsTest has the others. */
public final class EdgeSettingUpTest {
    private EdgeSettingUpTest() {
    }

    public static void main(String[] args) {
        deskWithoutPeople();
        skillsFrom2To14();
        mostFrom0To7();
        numberOfThePerson();
        personAddedLater();
        needsFrom0To5();
        needBefore();
        forbidTellsAChange();
        forbidLeavesEntries();
        forbidAllAndNone();
        runFrom1To14();
        runOf1();
        runOf14();
        setRunLeavesEntries();
        wishTellsAChange();
        wishesForAllDays();
        wishIsNoRule();
        fixFromNoneTo3();
        fixLeavesTheRoster();
        fixWhatCanNeverBe();
        fixAllDays();
        Check.end("EdgeSettingUpTest");
    }

    // 1: "Creates a desk without people."
    private static void deskWithoutPeople() {
        CoverSheet desk = new CoverSheet();
        Check.due("people()", desk.people(), 0);
        Check.due("rounds()", desk.rounds(), 0);
        for (int day = 0; day <= 6; day++) {
            for (int kind = 1; kind <= 3; kind++) {
                Check.due("couldTake(" + day + ", " + kind + ")", desk.couldTake(day, kind), 0);
                Check.due("gap(" + day + ", " + kind + ")", desk.gap(day, kind), 0);
            }
        }
        Check.due("plan()", desk.plan(), 0);
        Check.due("closeWeek()", desk.closeWeek(), 1);
        desk.setNeed(6, 3, 5);
        Check.due("plan() with a need", desk.plan(), 5);
        Check.due("bound() with a need", desk.bound(), 5);
        Check.due("the first person", desk.addPerson(8, 7), 0);
        CoverSheet other = new CoverSheet();
        Check.due("people() of another desk", other.people(), 0);
        Check.due("gaps() of another desk", other.gaps(), 0);
        Check.due("closeWeek() of another desk", other.closeWeek(), 1);
    }

    // 2: skills: "the set of the kinds that are skills, the bit k for the kind k: 2 to 14, even"
    private static void skillsFrom2To14() {
        CoverSheet desk = new CoverSheet();
        for (int skills = 2; skills <= 14; skills += 2) {
            int person = desk.addPerson(skills, 7);
            Check.due("addPerson(" + skills + ", 7)", person, skills / 2 - 1);
            for (int kind = 1; kind <= 3; kind++) {
                int bit = desk.couldTake(0, kind) >> person & 1;
                Check.due("couldTake of " + skills + ", the kind " + kind, bit, skills >> kind & 1);
            }
        }
        Check.due("people()", desk.people(), 7);
    }

    // 2: most: "0 to 7 shifts in a week"
    private static void mostFrom0To7() {
        CoverSheet desk = new CoverSheet();
        Check.due("addPerson(14, 0)", desk.addPerson(14, 0), 0);
        Check.due("addPerson(14, 7)", desk.addPerson(14, 7), 1);
        desk.setRun(14);
        Check.due("who has no shift at most", desk.couldTake(6, 1), 2);
        Check.due("weeks(0)", desk.weeks(0), 1);
        Edge.work(desk, 1, "1111111");
        Check.due("shifts(1)", desk.shifts(1), 7);
        Edge.refusesState("a shift where none is the most", made -> made.addPerson(14, 0), made -> made.set(0, 0, 1));
    }

    // 2: "Returns the number of the person.": also when a call was refused between
    private static void numberOfThePerson() {
        CoverSheet desk = new CoverSheet();
        for (int number = 0; number <= 7; number++) {
            Check.due("a refused addPerson",
                    Check.answer(() -> desk.addPerson(1, 7)), "throws.IllegalArgumentException");
            Check.due("the person " + number, desk.addPerson(2, 0), number);
        }
        Check.due("the ninth", Check.answer(() -> desk.addPerson(2, 0)), "throws.IllegalStateException");
        Check.due("people()", desk.people(), 8);
    }

    // 2: "Adds a person.": nothing of the weeks, wishes and fixed entries before is that person's
    private static void personAddedLater() {
        CoverSheet desk = Edge.people(1);
        desk.setRun(1);
        Edge.work(desk, 0, "1010101");
        desk.wish(0, 0, true);
        desk.closeWeek();
        desk.fix(0, 0, 0);
        desk.wish(0, 1, true);
        Check.due("addPerson(14, 7)", desk.addPerson(14, 7), 1);
        Check.due("runBefore(1)", desk.runBefore(1), 0);
        Check.due("weekends(1)", desk.weekends(1), 0);
        Check.due("the first day", desk.set(1, 0, 1), 0);
        Check.due("broken(1)", desk.broken(1), 0);
        Check.due("a wish of 1", desk.wish(1, 1, false), false);
        Check.due("what is fixed for 1", desk.fix(1, 0, CoverSheet.NONE), CoverSheet.NONE);
    }

    // 3: people: "0 to 5", for every day and kind
    private static void needsFrom0To5() {
        for (int day = 0; day <= 6; day++) {
            for (int kind = 1; kind <= 3; kind++) {
                CoverSheet desk = new CoverSheet();
                Check.due("setNeed(.., 0) at first", desk.setNeed(day, kind, 0), 0);
                Check.due("setNeed(.., 5)", desk.setNeed(day, kind, 5), 0);
                Check.due("gap of 5", desk.gap(day, kind), 5);
                Check.due("gaps() of 5", desk.gaps(), 5);
                Check.due("setNeed(.., 0)", desk.setNeed(day, kind, 0), 5);
                Check.due("gap of 0", desk.gap(day, kind), 0);
                Check.due("gaps() of 0", desk.gaps(), 0);
            }
        }
    }

    // 3: "Returns the number before.": of that day and kind, and the same one twice
    private static void needBefore() {
        CoverSheet desk = new CoverSheet();
        int before = 0;
        for (int people = 0; people <= 5; people++) {
            Check.due("setNeed(6, 3, " + people + ")", desk.setNeed(6, 3, people), before);
            Check.due("setNeed(6, 3, " + people + ") again", desk.setNeed(6, 3, people), people);
            before = people;
        }
        Check.due("setNeed(6, 2, 0)", desk.setNeed(6, 2, 0), 0);
        Check.due("setNeed(5, 3, 0)", desk.setNeed(5, 3, 0), 0);
        Check.due("setNeed(0, 1, 0)", desk.setNeed(0, 1, 0), 0);
        desk.closeWeek();
        Check.due("setNeed(6, 3, 1) in the next week", desk.setNeed(6, 3, 1), 5);
    }

    // 4: "Returns true if that changes something.": each pair alone
    private static void forbidTellsAChange() {
        for (int pair = 0; pair < 9; pair++) {
            CoverSheet desk = Edge.freePeople(0);
            int kind = 1 + pair / 3;
            int next = 1 + pair % 3;
            Check.due("allow what is allowed", desk.forbid(kind, next, false), false);
            Check.due("forbid", desk.forbid(kind, next, true), true);
            Check.due("forbid what is forbidden", desk.forbid(kind, next, true), false);
            desk.closeWeek();
            Check.due("forbid in the next week", desk.forbid(kind, next, true), false);
            for (int other = 0; other < 9; other++) {
                Check.due("allow " + other + " where " + pair + " is forbidden",
                        desk.forbid(1 + other / 3, 1 + other % 3, false), other == pair);
            }
        }
    }

    // 4: "Entries stay, also if they break the rule then."
    private static void forbidLeavesEntries() {
        for (int pair = 0; pair < 9; pair++) {
            int kind = 1 + pair / 3;
            int next = 1 + pair % 3;
            for (int day = 0; day <= 5; day += 5) {
                CoverSheet desk = Edge.freePeople(1);
                desk.set(0, day, kind);
                desk.set(0, day + 1, next);
                Check.due("forbid(" + kind + ", " + next + ", true)", desk.forbid(kind, next, true), true);
                Check.due("the first entry", desk.entry(0, day), kind);
                Check.due("the second entry", desk.entry(0, day + 1), next);
                Check.due("shifts(0)", desk.shifts(0), 2);
                Check.due("isFeasible(0)", desk.isFeasible(0), false);
                desk.forbid(kind, next, false);
                Check.due("isFeasible(0) when it is allowed again", desk.isFeasible(0), true);
            }
        }
    }

    // 4: all pairs forbidden, and none
    private static void forbidAllAndNone() {
        CoverSheet desk = Edge.freePeople(1);
        Check.due("all weeks", desk.weeksByDays(0), 16384);
        for (int pair = 0; pair < 9; pair++) {
            desk.forbid(1 + pair / 3, 1 + pair % 3, true);
        }
        // No two shifts on days in a row: 1, 7, 15, 10 and 1 sets of 0 to 4 days, of three kinds each.
        Check.due("no shift after a shift", desk.weeksByDays(0), 1 + 7 * 3 + 15 * 9 + 10 * 27 + 81);
        Edge.work(desk, 0, "1020301");
        Check.due("a day off between", Check.week(desk, 0), "1020301");
    }

    // 5: days: "1 to 14", "Returns the run before."
    private static void runFrom1To14() {
        CoverSheet desk = new CoverSheet();
        int before = 5;
        for (int days = 1; days <= 14; days++) {
            Check.due("setRun(" + days + ")", desk.setRun(days), before);
            Check.due("setRun(" + days + ") again", desk.setRun(days), days);
            before = days;
        }
        desk.closeWeek();
        Check.due("setRun(1) in the next week", desk.setRun(1), 14);
    }

    // 5: the shortest run
    private static void runOf1() {
        Edge.Maker maker = desk -> {
            Edge.add(desk, 1);
            desk.setRun(1);
            Edge.work(desk, 0, "1010001");
        };
        Edge.refusesState("the day after", maker, desk -> desk.set(0, 3, 1));
        Edge.refusesState("the day ahead", maker, desk -> desk.set(0, 5, 1));
        Edge.refusesState("the day between", maker, desk -> desk.set(0, 1, 1));
        Check.due("a day between two days off", Edge.made(maker).set(0, 4, 1), 0);
        Edge.Maker next = desk -> {
            maker.make(desk);
            desk.closeWeek();
        };
        Edge.refusesState("the first day after the last one", next, desk -> desk.set(0, 0, 1));
        Check.due("the second day", Edge.made(next).set(0, 1, 1), 0);
    }

    // 5: the longest run: two whole weeks, and not a day more
    private static void runOf14() {
        Edge.Maker maker = desk -> {
            Edge.add(desk, 1);
            desk.setRun(14);
            for (int week = 0; week < 2; week++) {
                Edge.work(desk, 0, "1111111");
                desk.closeWeek();
            }
        };
        Check.due("runBefore(0)", Edge.made(maker).runBefore(0), 14);
        Edge.refusesState("the fifteenth day", maker, desk -> desk.set(0, 0, 1));
        Check.due("after a day off", Edge.made(maker).set(0, 1, 1), 0);
        Edge.Maker thirteen = desk -> {
            maker.make(desk);
            desk.setRun(13);
        };
        Check.due("isFeasible(0) with a run of 13", Edge.made(thirteen).isFeasible(0), true);
        Edge.refusesState("the first day with a run of 13", thirteen, desk -> desk.set(0, 0, 1));
    }

    // 5: "Entries stay, also if they break the rule then."
    private static void setRunLeavesEntries() {
        String[] weeks = {"1000000", "1100000", "1110000", "1111000", "1111100", "1111110", "1111111"};
        for (int worked = 1; worked <= 7; worked++) {
            for (int days = 1; days <= 7; days++) {
                CoverSheet desk = Edge.freePeople(1);
                Edge.work(desk, 0, weeks[worked - 1]);
                desk.setRun(days);
                Check.due("the week then", Check.week(desk, 0), weeks[worked - 1]);
                Check.due(worked + " days with a run of " + days, desk.isFeasible(0), worked <= days);
            }
        }
    }

    // 6: "Returns true if that changes something.", for the first and the last person and day
    private static void wishTellsAChange() {
        CoverSheet desk = Edge.people(8);
        for (int person = 0; person <= 7; person += 7) {
            for (int day = 0; day <= 6; day += 6) {
                Check.due("no wish at first", desk.wish(person, day, false), false);
                Check.due("a wish", desk.wish(person, day, true), true);
                Check.due("the same wish", desk.wish(person, day, true), false);
                Check.due("no wish any more", desk.wish(person, day, false), true);
                Check.due("still none", desk.wish(person, day, false), false);
            }
        }
        desk.wish(7, 6, true);
        Check.due("not of the day before", desk.wish(7, 5, false), false);
        Check.due("not of the person before", desk.wish(6, 6, false), false);
        Check.due("not of the first", desk.wish(0, 0, false), false);
    }

    // 6: a wish for no day, and for all of them
    private static void wishesForAllDays() {
        CoverSheet desk = Edge.freePeople(2);
        Edge.work(desk, 0, "1111111");
        Check.due("no wishes", desk.broken(0), 0);
        for (int day = 0; day <= 6; day++) {
            Check.due("wish(0, " + day + ", true)", desk.wish(0, day, true), true);
            Check.due("broken(0)", desk.broken(0), day + 1);
        }
        Check.due("broken(1)", desk.broken(1), 0);
    }

    // 6: "Notes that a person wishes off": entries stay, and the week stays feasible
    private static void wishIsNoRule() {
        CoverSheet desk = Edge.people(1);
        desk.set(0, 0, 1);
        for (int day = 0; day <= 6; day++) {
            desk.wish(0, day, true);
        }
        Check.due("entry(0, 0)", desk.entry(0, 0), 1);
        Check.due("isFeasible(0)", desk.isFeasible(0), true);
        Check.due("set(0, 6, 1)", desk.set(0, 6, 1), 0);
        Check.due("weeks(0)", desk.weeks(0), Edge.people(1).weeks(0));
    }

    // 7: entry: "0 to 3, or NONE to fix none"; "Returns what was fixed before; NONE if nothing."
    private static void fixFromNoneTo3() {
        CoverSheet desk = Edge.people(8);
        for (int person = 0; person <= 7; person += 7) {
            for (int day = 0; day <= 6; day += 6) {
                Check.due("nothing at first", desk.fix(person, day, CoverSheet.NONE), CoverSheet.NONE);
                Check.due("still nothing", desk.fix(person, day, 0), CoverSheet.NONE);
                for (int entry = 0; entry <= 3; entry++) {
                    Check.due("fix where one less is fixed", desk.fix(person, day, entry), Math.max(0, entry - 1));
                    Check.due("fix the same", desk.fix(person, day, entry), entry);
                }
                Check.due("fix none", desk.fix(person, day, CoverSheet.NONE), 3);
                Check.due("fix off", desk.fix(person, day, CoverSheet.OFF), CoverSheet.NONE);
                Check.due("fix none where off is", desk.fix(person, day, CoverSheet.NONE), CoverSheet.OFF);
            }
        }
        desk.fix(7, 6, 3);
        Check.due("nothing of the day before", desk.fix(7, 5, -1), CoverSheet.NONE);
        Check.due("nothing of the person before", desk.fix(6, 6, -1), CoverSheet.NONE);
    }

    // 7: "The entry of the roster stays as it is."
    private static void fixLeavesTheRoster() {
        for (int entry = 0; entry <= 3; entry++) {
            for (int fixed = -1; fixed <= 3; fixed++) {
                CoverSheet desk = Edge.people(1);
                desk.set(0, 6, entry);
                desk.fix(0, 6, fixed);
                Check.due("entry(0, 6) where " + fixed + " is fixed", desk.entry(0, 6), entry);
                Check.due("isFeasible(0) with " + entry + " where " + fixed + " is fixed",
                        desk.isFeasible(0), fixed == -1 || fixed == entry);
            }
        }
    }

    // 7: "For each person and day an entry can be fixed": also one that no week can have
    private static void fixWhatCanNeverBe() {
        CoverSheet desk = new CoverSheet();
        desk.addPerson(2, 0);
        Check.due("a shift where none is the most", desk.fix(0, 0, 1), CoverSheet.NONE);
        Check.due("weeks(0)", desk.weeks(0), 0);
        Check.due("a kind that is no skill", desk.fix(0, 0, 3), 1);
        Check.due("weeks(0) then", desk.weeks(0), 0);
        Check.due("off", desk.fix(0, 0, 0), 3);
        Check.due("weeks(0) at last", desk.weeks(0), 1);
    }

    // 7: all days of all people fixed
    private static void fixAllDays() {
        CoverSheet desk = Edge.people(8);
        for (int person = 0; person <= 7; person++) {
            for (int day = 0; day <= 6; day++) {
                desk.fix(person, day, (person + day) % 4);
            }
        }
        for (int person = 0; person <= 7; person++) {
            for (int day = 0; day <= 6; day++) {
                Check.due("fix(" + person + ", " + day + ", -1)", desk.fix(person, day, -1), (person + day) % 4);
            }
        }
    }
}
