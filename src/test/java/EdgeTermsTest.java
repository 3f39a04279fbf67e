/** The sentences of "Terms" that name a boundary; the comment of each test is the sentence. */
public final class EdgeTermsTest {
    private EdgeTermsTest() {
    }

    public static void main(String[] args) {
        lastOf512Calls();
        greatestBurdenOf512Calls();
        daysOfTheWeekend();
        numbersOfPeople();
        entriesOfANewPerson();
        entriesWhenAWeekIsClosed();
        needsAtFirst();
        needsStay();
        gapAtTheNeed();
        gapsAreTheSum();
        gapsOfTooManyPeople();
        forbiddenAtFirst();
        onTheNextDay();
        forbiddenAcrossWeeks();
        runAtFirst();
        runAcrossWeeks();
        runIsBrokenByADayOff();
        runLongerThanTheRule();
        weekBeforeTheLast();
        skillsOfAPerson();
        greatestNumberOfShifts();
        shiftsOfTheNextWeek();
        fixedEntries();
        Check.end("EdgeTermsTest");
    }

    // "An object is used for at most 512 calls after it has been made"
    private static void lastOf512Calls() {
        CoverSheet desk = new CoverSheet();
        for (int call = 1; call <= 512; call++) {
            Check.due("closeWeek() as the call " + call, desk.closeWeek(), call);
        }
        CoverSheet other = new CoverSheet();
        other.addPerson(2, 7);
        for (int call = 2; call < 512; call++) {
            other.set(0, call % 7, call % 2);
        }
        Check.due("shifts(0) as the 512th call", other.shifts(0), 4);
    }

    // The same sentence: no desk can have more weekend shifts than 512 calls make.
    private static void greatestBurdenOf512Calls() {
        CoverSheet desk = new CoverSheet();
        desk.addPerson(2, 2);
        Edge.need(desk, 1, "0000011");
        for (int week = 1; week <= 244; week++) {
            Check.due("plan() of the week " + week, desk.plan(), 0);
            desk.closeWeek();
        }
        Check.due("weekends(0)", desk.weekends(0), 488);
        desk.setNeed(0, 1, 1);
        desk.setNeed(1, 1, 1);
        Check.due("plan(), call 500", desk.plan(), 2);
        Check.due("the burden goes ahead of the order", Check.week(desk, 0), "1100000");
        desk.setNeed(0, 1, 0);
        Check.due("plan(), call 509", desk.plan(), 1);
        Check.due("one on the weekend", desk.entry(0, 1) + desk.entry(0, 6), 2);
        Check.due("weekends(0), call 512", desk.weekends(0), 488);
    }

    // "A week has the days 0 to 6; the days 5 and 6 are the weekend."
    private static void daysOfTheWeekend() {
        for (int day = 0; day <= 6; day++) {
            CoverSheet desk = Edge.people(1);
            desk.set(0, day, 1);
            desk.closeWeek();
            Check.due("weekends(0) after a shift on the day " + day, desk.weekends(0), day >= 5 ? 1 : 0);
            desk.closeWeek();
            Check.due("weekends(0) after a week off", desk.weekends(0), day >= 5 ? 1 : 0);
        }
    }

    // "There can be 8 people, numbered from 0 in the order in which they are added."
    private static void numbersOfPeople() {
        int[] weeks = {1, 8, 29, 64, 99, 120, 127, 128};
        CoverSheet desk = new CoverSheet();
        desk.setRun(14);
        for (int number = 0; number <= 7; number++) {
            Check.due("people() ahead of " + number, desk.people(), number);
            Check.due("addPerson(2, " + number + ")", desk.addPerson(2, number), number);
        }
        for (int number = 0; number <= 7; number++) {
            Check.due("the weeks of " + number, desk.weeksByDays(number), weeks[number]);
        }
        for (int people = 0; people <= 8; people++) {
            int count = people;
            if (people > 0) {
                Check.due("shifts of the last of " + people, Edge.people(people).shifts(people - 1), 0);
            }
            Edge.refusesIndex("shifts(" + people + ") of " + people + " people",
                    made -> Edge.add(made, count), made -> made.shifts(count));
        }
        Edge.refusesState("the ninth person", made -> Edge.add(made, 8), made -> made.addPerson(14, 7));
    }

    // "All entries are 0 at first"
    private static void entriesOfANewPerson() {
        CoverSheet desk = Edge.people(7);
        Edge.work(desk, 6, "1111100");
        desk.closeWeek();
        Edge.work(desk, 6, "0011111");
        desk.plan();
        desk.addPerson(14, 7);
        for (int day = 0; day <= 6; day++) {
            Check.due("entry(7, " + day + ")", desk.entry(7, day), 0);
        }
    }

    // "All entries are 0 [..] when a week is closed."
    private static void entriesWhenAWeekIsClosed() {
        CoverSheet desk = Edge.freePeople(8);
        for (int person = 0; person <= 7; person++) {
            Edge.work(desk, person, "1231233");
        }
        desk.closeWeek();
        for (int person = 0; person <= 7; person++) {
            Check.due("the week of " + person, Check.week(desk, person), "0000000");
            Check.due("shifts(" + person + ")", desk.shifts(person), 0);
        }
    }

    // "For each day and kind some number of people is needed, 0 at first"
    private static void needsAtFirst() {
        CoverSheet desk = new CoverSheet();
        for (int day = 0; day <= 6; day++) {
            for (int kind = 1; kind <= 3; kind++) {
                Check.due("gap(" + day + ", " + kind + ")", desk.gap(day, kind), 0);
                Check.due("the need of " + day + ", " + kind, desk.setNeed(day, kind, 0), 0);
            }
        }
        Check.due("gaps()", desk.gaps(), 0);
        Check.due("plan()", desk.plan(), 0);
        Check.due("bound()", desk.bound(), 0);
    }

    // "needs stay when a week is closed"
    private static void needsStay() {
        CoverSheet desk = Edge.people(1);
        for (int day = 0; day <= 6; day++) {
            for (int kind = 1; kind <= 3; kind++) {
                desk.setNeed(day, kind, (day + 2 * kind) % 6);
            }
        }
        desk.plan();
        desk.closeWeek();
        desk.closeWeek();
        for (int day = 0; day <= 6; day++) {
            for (int kind = 1; kind <= 3; kind++) {
                int due = (day + 2 * kind) % 6;
                Check.due("gap(" + day + ", " + kind + ")", desk.gap(day, kind), due);
                Check.due("the need of " + day + ", " + kind, desk.setNeed(day, kind, 0), due);
            }
        }
    }

    // "The gap of a day and a kind is what the needed number is above the number of people with that
    // entry, or 0."
    private static void gapAtTheNeed() {
        for (int need = 0; need <= 5; need++) {
            CoverSheet desk = Edge.people(8);
            desk.setNeed(6, 3, need);
            for (int have = 0; have <= 8; have++) {
                int due = have < need ? need - have : 0;
                Check.due(need + " are needed, " + have + " there", desk.gap(6, 3), due);
                Check.due("gaps() then", desk.gaps(), due);
                if (have < 8) {
                    desk.set(have, 6, 3);
                }
            }
        }
    }

    // "The gaps are the sum over all days and kinds."
    private static void gapsAreTheSum() {
        CoverSheet desk = new CoverSheet();
        for (int day = 0; day <= 6; day++) {
            for (int kind = 1; kind <= 3; kind++) {
                CoverSheet one = new CoverSheet();
                one.setNeed(day, kind, 1);
                Check.due("gaps() of " + day + ", " + kind + " alone", one.gaps(), 1);
                desk.setNeed(day, kind, 5);
                Check.due("gaps() up to " + day + ", " + kind, desk.gaps(), 5 * (3 * day + kind));
            }
        }
    }

    // The same sentence: people above the need of one kind are no help for another one.
    private static void gapsOfTooManyPeople() {
        CoverSheet desk = Edge.people(8);
        desk.setNeed(0, 1, 5);
        desk.setNeed(0, 2, 1);
        desk.setNeed(1, 1, 2);
        for (int person = 0; person <= 7; person++) {
            desk.set(person, 0, 1);
        }
        Check.due("gaps() with three people too many", desk.gaps(), 3);
    }

    // "at first it is forbidden that early follows late, and that early or late follow night"
    private static void forbiddenAtFirst() {
        for (int pair = 0; pair < 9; pair++) {
            int kind = 1 + pair / 3;
            int next = 1 + pair % 3;
            boolean isForbidden = kind == 2 && next == 1 || kind == 3 && next < 3;
            Check.due("forbid(" + kind + ", " + next + ", true) at first",
                    new CoverSheet().forbid(kind, next, true), !isForbidden);
            for (int day = 0; day <= 5; day++) {
                int first = day;
                String what = next + " after " + kind + " on the day " + first;
                Edge.Maker maker = desk -> {
                    Edge.add(desk, 1);
                    desk.set(0, first, kind);
                };
                if (isForbidden) {
                    Edge.refusesState(what, maker, desk -> desk.set(0, first + 1, next));
                } else {
                    Check.due(what, Edge.made(maker).set(0, first + 1, next), 0);
                }
            }
        }
    }

    // "each kind that follows it on the next day": not one that follows it later, or on the same day.
    private static void onTheNextDay() {
        CoverSheet desk = Edge.people(1);
        Check.due("night on the first day", desk.set(0, 0, 3), 0);
        Check.due("early two days later", desk.set(0, 2, 1), 0);
        Check.due("night two days after that", desk.set(0, 4, 3), 0);
        Check.due("late two days after that", desk.set(0, 6, 2), 0);
        Check.due("late where night was", desk.set(0, 4, 2), 3);
        Check.due("early where late was", desk.set(0, 4, 1), 2);
        Check.due("the week", Check.week(desk, 0), "3010102");
    }

    // "Both rules look at the weeks that were closed, too: at the last entry of a person"
    private static void forbiddenAcrossWeeks() {
        String[] weeks = {"0000030", "0000011", "0000012", "0000033"};
        for (int last = 0; last <= 3; last++) {
            for (int next = 1; next <= 3; next++) {
                int before = last;
                int after = next;
                Edge.Maker maker = desk -> {
                    Edge.add(desk, 2);
                    Edge.work(desk, 0, weeks[before]);
                    desk.closeWeek();
                };
                String what = after + " on the first day after " + before;
                if (before > after) {
                    Edge.refusesState(what, maker, desk -> desk.set(0, 0, after));
                } else {
                    Check.due(what, Edge.made(maker).set(0, 0, after), 0);
                }
                Check.due(what + ", another person", Edge.made(maker).set(1, 0, after), 0);
                Check.due(what + ", a day later", Edge.made(maker).set(0, 1, after), 0);
            }
        }
    }

    // "Nobody may work on more than some number of days in a row (the run), 5 at first."
    private static void runAtFirst() {
        Check.due("setRun(5) at first", new CoverSheet().setRun(5), 5);
        for (int start = 0; start <= 2; start++) {
            int first = start;
            Edge.Maker five = desk -> {
                Edge.add(desk, 1);
                for (int day = first; day < first + 5; day++) {
                    desk.set(0, day, 1);
                }
            };
            Check.due("five days from " + first, Edge.made(five).shifts(0), 5);
            if (first <= 1) {
                Edge.refusesState("the sixth from " + first, five, desk -> desk.set(0, first + 5, 1));
            }
            if (first >= 1) {
                Edge.refusesState("the sixth, ahead of " + first, five, desk -> desk.set(0, first - 1, 1));
            }
        }
    }

    /** One person who had a week, and works on the first days of the next one. */
    private static void workOn(CoverSheet desk, String closed, int days) {
        Edge.add(desk, 1);
        Edge.work(desk, 0, closed);
        desk.closeWeek();
        for (int day = 0; day < days; day++) {
            desk.set(0, day, 1);
        }
    }

    // "Both rules look at the weeks that were closed, too: [..] at how many days up to the last one the
    // person had worked in a row."
    private static void runAcrossWeeks() {
        String[] closed = {"0000000", "0000001", "0000011", "0000111", "0001111", "0011111"};
        for (int before = 0; before <= 5; before++) {
            String last = closed[before];
            int free = 5 - before;
            Edge.Maker maker = desk -> workOn(desk, last, free);
            Check.due("the days after " + last, Edge.made(maker).shifts(0), free);
            Edge.refusesState("one more after " + last, maker, desk -> desk.set(0, free, 1));
            Check.due("a day off after " + last, Edge.made(maker).set(0, free + 1, 1), 0);
        }
    }

    // The same sentence: a row ends with the last day that was off, however long it had been.
    private static void runIsBrokenByADayOff() {
        String[] closed = {"1111100", "1111101", "1111011", "0111110"};
        int[] rows = {0, 1, 2, 0};
        for (int number = 0; number < closed.length; number++) {
            String last = closed[number];
            int free = 5 - rows[number];
            Edge.Maker maker = desk -> workOn(desk, last, free);
            Check.due("runBefore(0) after " + last, Edge.made(maker).runBefore(0), 5 - free);
            Check.due("the days after " + last, Edge.made(maker).shifts(0), free);
            Edge.refusesState("one more after " + last, maker, desk -> desk.set(0, free, 1));
        }
    }

    // "Nobody may work": a day off breaks no rule, however long the row before it is.
    private static void runLongerThanTheRule() {
        Edge.Maker maker = desk -> {
            Edge.add(desk, 1);
            desk.setRun(14);
            Edge.work(desk, 0, "1111111");
            desk.closeWeek();
            desk.setRun(1);
        };
        Edge.Maker seven = desk -> {
            maker.make(desk);
            desk.setRun(7);
        };
        Check.due("isFeasible(0)", Edge.made(maker).isFeasible(0), true);
        Check.due("the second day", Edge.made(maker).set(0, 1, 1), 0);
        Edge.refusesState("the first day", maker, desk -> desk.set(0, 0, 1));
        CoverSheet desk = Edge.made(maker);
        Edge.refusesState("the first day with a run of seven", seven, made -> made.set(0, 0, 1));
        desk.setRun(8);
        Check.due("the first day with a run of eight", desk.set(0, 0, 1), 0);
    }

    // "at the last entry of a person": a week off lies between, so nothing is left of the week before.
    private static void weekBeforeTheLast() {
        CoverSheet desk = Edge.people(1);
        Edge.work(desk, 0, "0033333");
        desk.closeWeek();
        desk.closeWeek();
        for (int day = 0; day <= 4; day++) {
            Check.due("set(0, " + day + ", 1)", desk.set(0, day, 1), 0);
        }
    }

    // "A person has some skills, which are kinds": all shifts are among them, and off is always.
    private static void skillsOfAPerson() {
        for (int set = 2; set <= 14; set += 2) {
            int skills = set;
            for (int entry = 0; entry <= 3; entry++) {
                int asked = entry;
                String what = "set(0, 6, " + entry + ") with the skills " + skills;
                if (entry == 0 || (skills >> entry & 1) == 1) {
                    Check.due(what, Edge.made(desk -> desk.addPerson(skills, 1)).set(0, 6, entry), 0);
                } else {
                    Edge.refusesState(what, desk -> desk.addPerson(skills, 1), desk -> desk.set(0, 6, asked));
                }
            }
        }
    }

    // "a greatest number of shifts in a week": "at most as many shifts as told"
    private static void greatestNumberOfShifts() {
        for (int most = 0; most <= 7; most++) {
            int told = most;
            Edge.Maker maker = desk -> {
                desk.addPerson(2, told);
                desk.setRun(7);
                for (int day = 6; day > 6 - told; day--) {
                    desk.set(0, day, 1);
                }
            };
            Check.due("shifts(0) of " + most, Edge.made(maker).shifts(0), most);
            Check.due("isFeasible(0) with " + most, Edge.made(maker).isFeasible(0), true);
            if (most < 7) {
                Edge.refusesState("one more than " + most, maker, desk -> desk.set(0, 0, 1));
            }
        }
    }

    // "in a week": the shifts of a closed week don't count in the next one.
    private static void shiftsOfTheNextWeek() {
        for (int closed = 0; closed <= 2; closed++) {
            int weeks = closed;
            Edge.Maker maker = desk -> {
                desk.addPerson(2, 1);
                for (int week = 0; week <= weeks; week++) {
                    if (week > 0) {
                        desk.closeWeek();
                    }
                    desk.set(0, 2, 1);
                }
            };
            Check.due("the one shift after weeks: " + closed, Edge.made(maker).shifts(0), 1);
            Edge.refusesState("a second one after weeks: " + closed, maker, desk -> desk.set(0, 4, 1));
        }
    }

    // "no entry differs from one that is fixed"
    private static void fixedEntries() {
        for (int fixed = 0; fixed <= 3; fixed++) {
            for (int entry = 0; entry <= 3; entry++) {
                for (int day = 0; day <= 6; day += 6) {
                    int told = fixed;
                    int asked = entry;
                    int when = day;
                    Edge.Maker maker = desk -> {
                        Edge.add(desk, 8);
                        desk.fix(7, when, told);
                    };
                    String what = "set(7, " + day + ", " + entry + ") where " + fixed + " is fixed";
                    if (fixed == entry) {
                        Check.due(what, Edge.made(maker).set(7, day, entry), 0);
                    } else {
                        Edge.refusesState(what, maker, desk -> desk.set(7, when, asked));
                    }
                    Check.due(what + ", of another person", Edge.made(maker).set(6, day, entry), 0);
                }
            }
        }
    }
}
