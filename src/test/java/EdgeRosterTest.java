/** The boundaries of the promises 13 to 20: what is asked of the roster. */
public final class EdgeRosterTest {
    private EdgeRosterTest() {
    }

    public static void main(String[] args) {
        peopleFrom0To8();
        entriesFrom0To3();
        entriesOfTheFirstAndTheLast();
        gapsFrom0To105();
        gapsOfAllPlacesFilled();
        gapFrom0To5();
        gapOfOneDayAndKind();
        shiftsFrom0To7();
        weekendsOfClosedWeeks();
        weekendsOfTheLastPerson();
        brokenFrom0To7();
        brokenByAnyShift();
        brokenInThisWeek();
        runBeforeTheFirstClosing();
        runBeforeOfANewPerson();
        runBeforeUpToTheLastDay();
        runBeforeStaysInTheWeek();
        Check.end("EdgeRosterTest");
    }

    // 13: "Returns how many people there are.": nobody, and the desk full
    private static void peopleFrom0To8() {
        for (int people = 0; people <= 8; people++) {
            CoverSheet desk = Edge.people(people);
            Check.due("people()", desk.people(), people);
            desk.plan();
            desk.closeWeek();
            Check.due("people() in the next week", desk.people(), people);
        }
    }

    // 14: "Returns 0 to 3."
    private static void entriesFrom0To3() {
        for (int entry = 0; entry <= 3; entry++) {
            for (int day = 0; day <= 6; day++) {
                CoverSheet desk = Edge.people(1);
                desk.set(0, day, entry);
                for (int other = 0; other <= 6; other++) {
                    Check.due("entry(0, " + other + ")", desk.entry(0, other), other == day ? entry : 0);
                }
            }
        }
    }

    // 14: the first and the last person and day
    private static void entriesOfTheFirstAndTheLast() {
        CoverSheet desk = Edge.people(8);
        desk.set(0, 0, 1);
        desk.set(0, 6, 2);
        desk.set(7, 0, 3);
        desk.set(7, 6, 1);
        Check.due("entry(0, 0)", desk.entry(0, 0), 1);
        Check.due("entry(0, 6)", desk.entry(0, 6), 2);
        Check.due("entry(7, 0)", desk.entry(7, 0), 3);
        Check.due("entry(7, 6)", desk.entry(7, 6), 1);
        Check.due("entry(6, 6)", desk.entry(6, 6), 0);
        Check.due("entry(1, 0)", desk.entry(1, 0), 0);
    }

    // 15: nothing needed, and the most that may be needed
    private static void gapsFrom0To105() {
        for (int people = 0; people <= 8; people += 8) {
            CoverSheet desk = Edge.people(people);
            Check.due("gaps() of nothing needed", desk.gaps(), 0);
            for (int kind = 1; kind <= 3; kind++) {
                Edge.need(desk, kind, "5555555");
            }
            Check.due("gaps() of the most needed", desk.gaps(), 105);
        }
    }

    // 15: every place filled, and one of them left
    private static void gapsOfAllPlacesFilled() {
        CoverSheet desk = Edge.freePeople(8);
        Edge.need(desk, 1, "5555555");
        Edge.need(desk, 2, "3333333");
        for (int person = 0; person <= 7; person++) {
            Edge.work(desk, person, person < 5 ? "1111111" : "2222222");
        }
        Check.due("gaps()", desk.gaps(), 0);
        desk.set(7, 6, 0);
        Check.due("gaps() of a place left", desk.gaps(), 1);
        desk.set(7, 6, 1);
        Check.due("gaps() of a place left and one taken twice", desk.gaps(), 1);
    }

    // 16: "or 0": none needed, one less than there are, as many, one more, and the most
    private static void gapFrom0To5() {
        for (int have = 0; have <= 8; have++) {
            CoverSheet desk = Edge.people(8);
            for (int person = 8 - have; person <= 7; person++) {
                desk.set(person, 0, 1);
            }
            for (int need = 0; need <= 5; need++) {
                desk.setNeed(0, 1, need);
                Check.due("gap(0, 1) of " + need + " with " + have, desk.gap(0, 1), Math.max(0, need - have));
            }
        }
    }

    // 16: "The gap of a day and a kind": no other entry counts, off neither
    private static void gapOfOneDayAndKind() {
        CoverSheet desk = Edge.people(4);
        for (int kind = 1; kind <= 3; kind++) {
            Edge.need(desk, kind, "2222222");
        }
        for (int person = 0; person <= 3; person++) {
            desk.set(person, 6, person);
        }
        for (int kind = 1; kind <= 3; kind++) {
            Check.due("gap(6, " + kind + ")", desk.gap(6, kind), 1);
            Check.due("gap(5, " + kind + ")", desk.gap(5, kind), 2);
            Check.due("gap(0, " + kind + ")", desk.gap(0, kind), 2);
        }
    }

    // 17: "how many shifts a person has in this week": none to seven, of each kind
    private static void shiftsFrom0To7() {
        for (int kind = 1; kind <= 3; kind++) {
            CoverSheet desk = Edge.freePeople(8);
            for (int day = 0; day <= 6; day++) {
                Check.due("shifts(7)", desk.shifts(7), day);
                desk.set(7, day, kind);
            }
            Check.due("shifts(7) of seven", desk.shifts(7), 7);
            Check.due("shifts(0)", desk.shifts(0), 0);
            desk.closeWeek();
            Check.due("shifts(7) of the next week", desk.shifts(7), 0);
        }
    }

    // 18: "in closed weeks": not in this one, also not in one that is planned
    private static void weekendsOfClosedWeeks() {
        CoverSheet desk = Edge.people(1);
        Edge.need(desk, 3, "0000011");
        for (int week = 0; week < 5; week++) {
            desk.plan();
            Check.due("weekends(0) ahead of the closing " + week, desk.weekends(0), 2 * week);
            desk.closeWeek();
        }
        Check.due("weekends(0)", desk.weekends(0), 10);
    }

    // 18: the first and the last person
    private static void weekendsOfTheLastPerson() {
        CoverSheet desk = Edge.people(8);
        desk.set(7, 5, 1);
        desk.set(7, 6, 1);
        desk.set(0, 6, 1);
        desk.closeWeek();
        Check.due("weekends(0)", desk.weekends(0), 1);
        Check.due("weekends(6)", desk.weekends(6), 0);
        Check.due("weekends(7)", desk.weekends(7), 2);
    }

    // 19: "how many wishes of a person this week breaks": none to seven
    private static void brokenFrom0To7() {
        CoverSheet desk = Edge.freePeople(8);
        for (int day = 0; day <= 6; day++) {
            desk.wish(7, day, true);
        }
        for (int day = 0; day <= 6; day++) {
            Check.due("broken(7)", desk.broken(7), day);
            desk.set(7, day, 1);
        }
        Check.due("broken(7) of seven", desk.broken(7), 7);
        Check.due("broken(0)", desk.broken(0), 0);
    }

    // 19: "a wish is broken by a shift on a day for which off is wished": by each kind, not by off
    private static void brokenByAnyShift() {
        for (int entry = 0; entry <= 3; entry++) {
            for (int day = 0; day <= 6; day += 6) {
                CoverSheet desk = Edge.people(1);
                desk.set(0, day, entry);
                Check.due("broken(0) without a wish", desk.broken(0), 0);
                desk.wish(0, day == 0 ? 1 : 5, true);
                Check.due("broken(0) of a day beside it", desk.broken(0), 0);
                desk.wish(0, day, true);
                Check.due("broken(0) of " + entry, desk.broken(0), entry == 0 ? 0 : 1);
                desk.wish(0, day, false);
                Check.due("broken(0) of a wish no more", desk.broken(0), 0);
            }
        }
    }

    // 19: "this week": wishes of a closed week are gone, those of this one are not
    private static void brokenInThisWeek() {
        CoverSheet desk = Edge.people(1);
        desk.wish(0, 6, true);
        desk.set(0, 6, 1);
        desk.closeWeek();
        Check.due("broken(0) of an empty week", desk.broken(0), 0);
        desk.set(0, 6, 1);
        Check.due("broken(0) of a shift without a wish", desk.broken(0), 0);
        desk.wish(0, 6, true);
        Check.due("broken(0) of both", desk.broken(0), 1);
    }

    // 20: "0 if no week was closed since the person was added"
    private static void runBeforeTheFirstClosing() {
        CoverSheet desk = Edge.freePeople(8);
        Edge.work(desk, 0, "1111111");
        Edge.work(desk, 7, "1111111");
        Check.due("runBefore(0)", desk.runBefore(0), 0);
        Check.due("runBefore(7)", desk.runBefore(7), 0);
        desk.closeWeek();
        Check.due("runBefore(0) then", desk.runBefore(0), 7);
        Check.due("runBefore(7) then", desk.runBefore(7), 7);
        Check.due("runBefore(3) then", desk.runBefore(3), 0);
    }

    // 20: "since the person was added"
    private static void runBeforeOfANewPerson() {
        CoverSheet desk = Edge.freePeople(1);
        Edge.work(desk, 0, "1111111");
        desk.closeWeek();
        desk.addPerson(14, 7);
        Check.due("runBefore(1)", desk.runBefore(1), 0);
        desk.set(1, 6, 1);
        Check.due("runBefore(1) of a week that is open", desk.runBefore(1), 0);
        desk.closeWeek();
        Check.due("runBefore(1) of a closed week", desk.runBefore(1), 1);
        Check.due("runBefore(0)", desk.runBefore(0), 0);
    }

    // 20: "up to its last day", "or the last entry was 0"
    private static void runBeforeUpToTheLastDay() {
        String[] weeks = {
            "1111110", "1111101", "1111011", "1110111", "1101111", "1011111", "0111111", "1111111",
        };
        for (int row = 0; row <= 7; row++) {
            CoverSheet desk = Edge.freePeople(1);
            Edge.work(desk, 0, weeks[row]);
            desk.closeWeek();
            Check.due("runBefore(0) after " + weeks[row], desk.runBefore(0), row);
            Edge.work(desk, 0, weeks[7]);
            desk.closeWeek();
            Check.due("runBefore(0) a whole week later", desk.runBefore(0), row + 7);
        }
    }

    // 20: "when the last week was closed": what is set and planned since is not looked at
    private static void runBeforeStaysInTheWeek() {
        CoverSheet desk = Edge.freePeople(1);
        Edge.work(desk, 0, "0000111");
        desk.closeWeek();
        Edge.need(desk, 1, "1111111");
        desk.plan();
        Check.due("runBefore(0) of a planned week", desk.runBefore(0), 3);
        desk.set(0, 0, 0);
        Check.due("runBefore(0) where the week begins off", desk.runBefore(0), 3);
    }
}
