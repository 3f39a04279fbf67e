/** Promises 21 to 26. */
public final class PossibleTest {
    private PossibleTest() {
    }

    public static void main(String[] args) {
        promise21IsFeasible();
        promises22And23Counts();
        promises22And23AcrossWeeks();
        promise24CouldTake();
        promise25SwapFor();
        promise25FewestShifts();
        promise26Bound();
        promise26LooksAtSkillsAlone();
        noSuchPerson();
        Check.end("PossibleTest");
    }

    private static CoverSheet deskOf(int people, int skills, int most) {
        CoverSheet desk = new CoverSheet();
        for (int number = 0; number < people; number++) {
            desk.addPerson(skills, most);
        }
        return desk;
    }

    private static void promise21IsFeasible() {
        CoverSheet desk = deskOf(2, 14, 3);
        Check.due("21 off on all days", desk.isFeasible(0), true);
        desk.set(0, 1, 1);
        desk.set(0, 2, 2);
        desk.set(0, 3, 2);
        Check.due("21 a week", desk.isFeasible(0), true);
        desk.setRun(2);
        Check.due("21 a run that is too long", desk.isFeasible(0), false);
        desk.setRun(3);
        Check.due("21 a longer run", desk.isFeasible(0), true);
        desk.forbid(2, 2, true);
        Check.due("21 a kind that is forbidden", desk.isFeasible(0), false);
        desk.forbid(2, 2, false);
        desk.fix(0, 1, 1);
        Check.due("21 fixed as it is", desk.isFeasible(0), true);
        desk.fix(0, 6, 1);
        Check.due("21 fixed otherwise", desk.isFeasible(0), false);
        Check.due("21 the other", desk.isFeasible(1), true);
        desk.fix(0, 6, -1);
        desk.fix(0, 1, -1);
        desk.set(0, 1, 0);
        desk.set(0, 6, 1);
        desk.closeWeek();
        desk.set(0, 0, 1);
        desk.forbid(1, 1, true);
        Check.due("21 forbidden after the last entry", desk.isFeasible(0), false);
        desk.forbid(1, 1, false);
        desk.setRun(1);
        Check.due("21 the run goes on", desk.isFeasible(0), false);
    }

    private static void counts(CoverSheet desk, String what, int person, int want) {
        Check.due("22 weeks: " + what, desk.weeks(person), want);
        Check.due("23 weeksByDays: " + what, desk.weeksByDays(person), want);
    }

    private static void promises22And23Counts() {
        CoverSheet desk = deskOf(1, 14, 7);
        desk.setRun(14);
        for (int pair = 0; pair < 9; pair++) {
            desk.forbid(1 + pair / 3, 1 + pair % 3, false);
        }
        counts(desk, "all", 0, 16384);
        desk.fix(0, 0, 2);
        counts(desk, "a fixed entry", 0, 4096);
        desk.fix(0, 6, 0);
        counts(desk, "two fixed entries", 0, 1024);
        desk.fix(0, 0, -1);
        desk.fix(0, 6, -1);
        desk.addPerson(2, 7);
        desk.addPerson(6, 1);
        desk.addPerson(2, 0);
        desk.addPerson(14, 6);
        counts(desk, "one skill", 1, 128);
        counts(desk, "two skills, one shift", 2, 15);
        counts(desk, "no shift", 3, 1);
        counts(desk, "six shifts", 4, 16384 - 2187);
        desk.setRun(6);
        counts(desk, "a run of six", 1, 127);
        desk.setRun(5);
        counts(desk, "a run of five", 1, 125);
        desk.setRun(1);
        counts(desk, "a run of one", 1, 34);
        counts(desk, "a run of one, three skills", 0, 1 + 21 + 15 * 9 + 10 * 27 + 81);
        desk.setRun(14);
        desk.forbid(1, 1, true);
        counts(desk, "early never follows early", 1, 34);
        desk.fix(1, 3, 3);
        counts(desk, "a fixed entry that is no skill", 1, 0);
        desk.fix(1, 3, 0);
        counts(desk, "fixed off", 1, 25);
        desk.fix(3, 3, 1);
        counts(desk, "a fixed shift too much", 3, 0);
        desk.set(0, 0, 3);
        Check.due("22 the roster stays", Check.week(desk, 0), "3000000");
    }

    private static void promises22And23AcrossWeeks() {
        CoverSheet desk = deskOf(2, 2, 7);
        for (int day = 2; day < 7; day++) {
            desk.set(0, day, 1);
        }
        desk.closeWeek();
        counts(desk, "off on the first day", 0, 63);
        counts(desk, "after a week off", 1, 125);
        desk.setRun(14);
        counts(desk, "a run of fourteen", 0, 128);
        desk.setRun(2);
        counts(desk, "a run shorter than the row before", 0, 44);
        desk.setRun(14);
        desk.closeWeek();
        counts(desk, "after another week off", 0, 128);
        for (int week = 0; week < 2; week++) {
            for (int day = 0; day < 7; day++) {
                desk.set(0, day, 1);
            }
            desk.closeWeek();
        }
        Check.due("20 fourteen days in a row", desk.runBefore(0), 14);
        counts(desk, "after fourteen days in a row", 0, 64);
        for (int day = 0; day < 7; day++) {
            desk.setNeed(day, 1, 1);
        }
        Check.due("8 plan() after fourteen days in a row", desk.plan(), 0);
        Check.due("8 off on the first day", Check.week(desk, 0) + Check.week(desk, 1), "01111111000000");
        desk = deskOf(1, 14, 7);
        desk.set(0, 6, 3);
        desk.closeWeek();
        int afterNight = desk.weeks(0);
        desk.fix(0, 0, 1);
        counts(desk, "early after night", 0, 0);
        desk.fix(0, 0, 2);
        counts(desk, "late after night", 0, 0);
        desk.fix(0, 0, 3);
        int night = desk.weeks(0);
        desk.fix(0, 0, 0);
        counts(desk, "night or off after night", 0, afterNight - night);
    }

    private static void promise24CouldTake() {
        CoverSheet desk = new CoverSheet();
        desk.addPerson(2, 7);
        desk.addPerson(14, 2);
        desk.addPerson(12, 7);
        desk.addPerson(14, 7);
        desk.addPerson(14, 0);
        Check.due("24 early", desk.couldTake(3, 1), 1 + 2 + 8);
        Check.due("24 night", desk.couldTake(3, 3), 2 + 4 + 8);
        desk.set(3, 3, 2);
        Check.due("24 who is not off", desk.couldTake(3, 1), 1 + 2);
        Check.due("24 who has it", desk.couldTake(3, 2), 2 + 4);
        Check.due("24 early after late", desk.couldTake(4, 1), 1 + 2);
        Check.due("24 late after late", desk.couldTake(4, 2), 2 + 4 + 8);
        desk.fix(0, 4, 0);
        Check.due("24 fixed off", desk.couldTake(4, 1), 2);
        desk.fix(2, 4, 3);
        Check.due("24 fixed otherwise", desk.couldTake(4, 2), 2 + 8);
        Check.due("24 as it is fixed", desk.couldTake(4, 3), 2 + 4 + 8);
        Check.due("24 what is fixed elsewhere", desk.couldTake(5, 3), 2 + 8);
        desk.set(1, 0, 1);
        desk.set(1, 1, 1);
        Check.due("24 no more shifts", desk.couldTake(6, 3), 8);
        desk.wish(3, 6, true);
        Check.due("24 a wish is no rule", desk.couldTake(6, 3), 8);
        desk.setRun(1);
        Check.due("24 no two in a row", desk.couldTake(4, 2), 0);
        Check.due("24 on the last day", desk.couldTake(6, 2), 8);
        Check.due("24 the roster stays", Check.week(desk, 3), "0002000");
        Check.index(desk, "24 couldTake(7, 1)", () -> desk.couldTake(7, 1));
        Check.index(desk, "24 couldTake(-1, 1)", () -> desk.couldTake(-1, 1));
        Check.index(desk, "24 couldTake(0, 0)", () -> desk.couldTake(0, 0));
        Check.index(desk, "24 couldTake(0, 4)", () -> desk.couldTake(0, 4));
        Check.due("24 all eight", deskOf(8, 14, 7).couldTake(0, 2), 255);
    }

    private static void promise25SwapFor() {
        CoverSheet desk = deskOf(3, 14, 7);
        Check.due("25 all the same", desk.swapFor(0, 2), CoverSheet.NONE);
        desk.set(0, 2, 1);
        Check.due("25 the lowest of those who are off", desk.swapFor(0, 2), 1);
        Check.due("25 off for a shift", desk.swapFor(2, 2), 0);
        desk.set(1, 2, 1);
        Check.due("25 not the same entry", desk.swapFor(0, 2), 2);
        Check.due("25 the lowest of those who work", desk.swapFor(2, 2), 0);
        desk.fix(2, 2, 0);
        Check.due("25 the other's is fixed", desk.swapFor(0, 2), CoverSheet.NONE);
        desk.fix(2, 2, -1);
        desk.fix(0, 2, 1);
        Check.due("25 the own is fixed", desk.swapFor(0, 2), CoverSheet.NONE);
        desk.fix(0, 2, -1);
        desk.set(2, 1, 2);
        Check.due("25 early after the other's late", desk.swapFor(0, 2), CoverSheet.NONE);
        desk.forbid(2, 1, false);
        Check.due("25 allowed", desk.swapFor(0, 2), 2);
        desk.wish(2, 2, true);
        Check.due("25 wishes are not looked at", desk.swapFor(0, 2), 2);
        Check.due("25 the roster stays", Check.week(desk, 0) + Check.week(desk, 2), "00100000200000");
        Check.index(desk, "25 swapFor(3, 0)", () -> desk.swapFor(3, 0));
        Check.index(desk, "25 swapFor(-1, 0)", () -> desk.swapFor(-1, 0));
        Check.index(desk, "25 swapFor(0, 7)", () -> desk.swapFor(0, 7));
        Check.index(desk, "25 swapFor(0, -1)", () -> desk.swapFor(0, -1));
        CoverSheet alone = deskOf(1, 14, 7);
        alone.set(0, 0, 1);
        Check.due("25 nobody else", alone.swapFor(0, 0), CoverSheet.NONE);
    }

    private static void promise25FewestShifts() {
        CoverSheet desk = deskOf(5, 14, 7);
        desk.set(0, 2, 1);
        desk.set(1, 4, 1);
        desk.set(1, 5, 1);
        desk.set(2, 4, 1);
        desk.set(3, 4, 1);
        desk.set(4, 4, 1);
        desk.set(4, 5, 1);
        desk.set(4, 6, 1);
        Check.due("25 the fewest shifts, of them the lowest", desk.swapFor(0, 2), 2);
        desk.set(3, 4, 0);
        Check.due("25 fewer shifts, a higher number", desk.swapFor(0, 2), 3);
        desk.fix(3, 2, 0);
        Check.due("25 the fewest of those who could", desk.swapFor(0, 2), 2);
        // Shifts are counted as the roster has them, not as the swap would leave them.
        CoverSheet few = deskOf(3, 14, 7);
        few.set(0, 0, 1);
        few.set(1, 0, 2);
        Check.due("25 a shift against none", few.swapFor(0, 0), 2);
        few.set(2, 3, 1);
        Check.due("25 a shift against a shift", few.swapFor(0, 0), 1);
        CoverSheet full = deskOf(2, 14, 7);
        full.setRun(14);
        for (int day = 0; day < 7; day++) {
            full.set(0, day, 1);
            full.set(1, day, 3);
        }
        Check.due("25 seven shifts, and night ahead of early", full.swapFor(0, 3), CoverSheet.NONE);
        full.forbid(3, 1, false);
        Check.due("25 seven shifts", full.swapFor(0, 3), 1);
    }

    private static void promise26Bound() {
        CoverSheet desk = new CoverSheet();
        desk.setNeed(0, 1, 2);
        desk.setNeed(0, 2, 1);
        desk.setNeed(3, 3, 5);
        Check.due("26 nobody", desk.bound(), 8);
        desk.addPerson(2, 7);
        Check.due("26 one early", desk.bound(), 7);
        desk.addPerson(2, 7);
        Check.due("26 two early", desk.bound(), 6);
        desk.addPerson(2, 7);
        Check.due("26 three early", desk.bound(), 6);
        desk.addPerson(14, 7);
        Check.due("26 one of all skills, on two days", desk.bound(), 4);
        desk.setNeed(0, 2, 2);
        desk.setNeed(0, 3, 1);
        Check.due("26 not two shifts on a day", desk.bound(), 6);
        desk.addPerson(6, 7);
        Check.due("26 early or late", desk.bound(), 5);
        desk.addPerson(10, 7);
        Check.due("26 early or night", desk.bound(), 3);
        desk.addPerson(12, 7);
        Check.due("26 late or night", desk.bound(), 2);
    }

    private static void promise26LooksAtSkillsAlone() {
        CoverSheet desk = deskOf(2, 14, 0);
        desk.setRun(1);
        for (int day = 0; day < 7; day++) {
            desk.setNeed(day, day % 2 == 0 ? 3 : 1, 2);
            desk.fix(0, day, 0);
        }
        Check.due("26 bound()", desk.bound(), 0);
        Check.due("26 but plan()", desk.plan(), 14);
        Check.due("26 then", desk.bound(), 0);
        desk.closeWeek();
        Check.due("26 needs stay", desk.bound(), 0);
        desk.setNeed(2, 2, 3);
        Check.due("26 three more", desk.bound(), 3);
        CoverSheet alone = deskOf(1, 14, 7);
        for (int kind = 1; kind <= 3; kind++) {
            alone.setNeed(4, kind, 1);
        }
        Check.due("26 one person for three kinds", alone.bound(), 2);
        CoverSheet pairs = new CoverSheet();
        for (int kind = 1; kind <= 3; kind++) {
            pairs.addPerson(14 - (1 << kind), 7);
            pairs.setNeed(1, kind, 1);
        }
        Check.due("26 three who can do two kinds each", pairs.bound(), 0);
    }

    private static void noSuchPerson() {
        CoverSheet desk = deskOf(3, 14, 7);
        int[] wrong = {3, 7, 8, -1, Integer.MIN_VALUE, Integer.MAX_VALUE};
        for (int person : wrong) {
            Check.index(desk, "21 isFeasible(" + person + ")", () -> desk.isFeasible(person));
            Check.index(desk, "22 weeks(" + person + ")", () -> desk.weeks(person));
            Check.index(desk, "23 weeksByDays(" + person + ")", () -> desk.weeksByDays(person));
        }
    }
}
