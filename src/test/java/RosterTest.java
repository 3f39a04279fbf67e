/** Promises 13 to 20. */
public final class RosterTest {
    private RosterTest() {
    }

    public static void main(String[] args) {
        promise13People();
        promise14Entry();
        promise15Gaps();
        promise16Gap();
        promise17Shifts();
        promise18Weekends();
        promise19Broken();
        promise20RunBefore();
        noSuchPerson();
        Check.end("RosterTest");
    }

    private static CoverSheet deskOf(int people) {
        CoverSheet desk = new CoverSheet();
        for (int number = 0; number < people; number++) {
            desk.addPerson(14, 7);
        }
        return desk;
    }

    private static void promise13People() {
        CoverSheet desk = new CoverSheet();
        for (int number = 0; number < 8; number++) {
            Check.due("13 people()", desk.people(), number);
            desk.addPerson(2, 0);
        }
        Check.due("13 eight", desk.people(), 8);
        Check.state(desk, "13 the ninth", () -> desk.addPerson(2, 0));
        desk.closeWeek();
        Check.due("13 people stay", desk.people(), 8);
    }

    private static void promise14Entry() {
        CoverSheet desk = deskOf(8);
        for (int person = 0; person < 8; person++) {
            for (int day = 0; day < 7; day++) {
                desk.set(person, day, day % 3 == 2 ? 0 : 1 + (person + day / 3) % 3 / 2);
            }
        }
        for (int person = 0; person < 8; person++) {
            for (int day = 0; day < 7; day++) {
                Check.due("14 entry", desk.entry(person, day),
                        day % 3 == 2 ? 0 : 1 + (person + day / 3) % 3 / 2);
            }
        }
        Check.index(desk, "14 entry(8, 0)", () -> desk.entry(8, 0));
        Check.index(desk, "14 entry(-1, 0)", () -> desk.entry(-1, 0));
        Check.index(desk, "14 entry(0, 7)", () -> desk.entry(0, 7));
        Check.index(desk, "14 entry(0, -1)", () -> desk.entry(0, -1));
        CoverSheet few = deskOf(2);
        Check.index(few, "14 entry(2, 0)", () -> few.entry(2, 0));
        Check.index(few, "14 entry(MIN, MAX)", () -> few.entry(Integer.MIN_VALUE, Integer.MAX_VALUE));
    }

    private static void promise15Gaps() {
        CoverSheet desk = deskOf(3);
        desk.setNeed(0, 1, 2);
        desk.setNeed(6, 3, 1);
        Check.due("15 nobody works", desk.gaps(), 3);
        desk.set(0, 0, 1);
        Check.due("15 one works", desk.gaps(), 2);
        desk.set(1, 0, 2);
        Check.due("15 a kind that is not needed", desk.gaps(), 2);
        desk.set(0, 6, 3);
        desk.set(1, 6, 3);
        desk.set(2, 6, 3);
        Check.due("15 too many are no help", desk.gaps(), 1);
        desk.setNeed(0, 1, 0);
        Check.due("15 a need less", desk.gaps(), 0);
        desk.closeWeek();
        Check.due("15 a new week", desk.gaps(), 1);
    }

    private static void promise16Gap() {
        CoverSheet desk = deskOf(3);
        desk.setNeed(2, 2, 2);
        Check.due("16 gap(2, 2)", desk.gap(2, 2), 2);
        Check.due("16 gap(2, 1)", desk.gap(2, 1), 0);
        Check.due("16 gap(1, 2)", desk.gap(1, 2), 0);
        for (int person = 0; person < 3; person++) {
            desk.set(person, 2, 2);
            Check.due("16 gap(2, 2) then", desk.gap(2, 2), Math.max(0, 1 - person));
        }
        Check.index(desk, "16 gap(7, 1)", () -> desk.gap(7, 1));
        Check.index(desk, "16 gap(-1, 1)", () -> desk.gap(-1, 1));
        Check.index(desk, "16 gap(0, 0)", () -> desk.gap(0, 0));
        Check.index(desk, "16 gap(0, 4)", () -> desk.gap(0, 4));
        Check.index(desk, "16 gap(1, -1)", () -> desk.gap(1, -1));
    }

    private static void promise17Shifts() {
        CoverSheet desk = deskOf(2);
        desk.setRun(14);
        for (int day = 0; day < 7; day++) {
            Check.due("17 shifts(1)", desk.shifts(1), day);
            desk.set(1, day, 1 + day / 3);
        }
        Check.due("17 seven", desk.shifts(1), 7);
        Check.due("17 of the other", desk.shifts(0), 0);
        desk.set(1, 3, 0);
        Check.due("17 six", desk.shifts(1), 6);
        desk.closeWeek();
        Check.due("17 a new week", desk.shifts(1), 0);
    }

    private static void promise18Weekends() {
        CoverSheet desk = deskOf(2);
        desk.set(0, 4, 1);
        desk.set(0, 5, 1);
        desk.set(1, 5, 1);
        desk.set(1, 6, 3);
        Check.due("18 not ahead of the closing", desk.weekends(1), 0);
        desk.closeWeek();
        Check.due("18 one", desk.weekends(0), 1);
        Check.due("18 two", desk.weekends(1), 2);
        desk.set(0, 6, 1);
        desk.set(1, 4, 1);
        desk.closeWeek();
        Check.due("18 one more", desk.weekends(0), 2);
        Check.due("18 none more", desk.weekends(1), 2);
        desk.addPerson(2, 7);
        Check.due("18 a new person", desk.weekends(2), 0);
    }

    private static void promise19Broken() {
        CoverSheet desk = deskOf(2);
        desk.wish(0, 0, true);
        desk.wish(0, 6, true);
        Check.due("19 off on all days", desk.broken(0), 0);
        desk.set(0, 0, 1);
        desk.set(0, 1, 1);
        Check.due("19 one", desk.broken(0), 1);
        desk.set(0, 6, 1);
        Check.due("19 two", desk.broken(0), 2);
        desk.wish(0, 1, true);
        Check.due("19 three", desk.broken(0), 3);
        desk.wish(0, 6, false);
        Check.due("19 two again", desk.broken(0), 2);
        Check.due("19 of the other", desk.broken(1), 0);
        desk.closeWeek();
        desk.set(0, 0, 1);
        Check.due("19 wishes of the last week", desk.broken(0), 0);
    }

    private static void promise20RunBefore() {
        CoverSheet desk = deskOf(2);
        desk.setRun(14);
        desk.set(0, 6, 1);
        desk.set(0, 5, 1);
        desk.set(0, 3, 1);
        Check.due("20 not ahead of the closing", desk.runBefore(0), 0);
        desk.closeWeek();
        Check.due("20 up to the day off", desk.runBefore(0), 2);
        Check.due("20 nothing", desk.runBefore(1), 0);
        desk.set(0, 0, 1);
        Check.due("20 as it was at the closing", desk.runBefore(0), 2);
        for (int day = 1; day < 7; day++) {
            desk.set(0, day, 1);
        }
        desk.set(1, 6, 3);
        desk.addPerson(14, 7);
        Check.due("20 a new person", desk.runBefore(2), 0);
        desk.closeWeek();
        Check.due("20 across the weeks", desk.runBefore(0), 9);
        Check.due("20 one", desk.runBefore(1), 1);
        for (int day = 0; day < 6; day++) {
            desk.set(1, day, 3);
        }
        for (int day = 0; day < 5; day++) {
            desk.set(0, day, 1);
        }
        desk.closeWeek();
        Check.due("20 the last entry was 0", desk.runBefore(0), 0);
        Check.due("20 of the other, too", desk.runBefore(1), 0);
    }

    private static void noSuchPerson() {
        CoverSheet desk = deskOf(3);
        desk.set(1, 1, 1);
        int[] wrong = {3, 7, 8, -1, Integer.MIN_VALUE, Integer.MAX_VALUE};
        for (int person : wrong) {
            Check.index(desk, "17 shifts(" + person + ")", () -> desk.shifts(person));
            Check.index(desk, "18 weekends(" + person + ")", () -> desk.weekends(person));
            Check.index(desk, "19 broken(" + person + ")", () -> desk.broken(person));
            Check.index(desk, "20 runBefore(" + person + ")", () -> desk.runBefore(person));
        }
    }
}
