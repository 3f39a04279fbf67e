/** Promises 1 to 7. */
public final class SettingUpTest {
    private SettingUpTest() {
    }

    public static void main(String[] args) {
        promise1NewObject();
        promise2AddPerson();
        promise2Refusals();
        promise3SetNeed();
        promise4Forbid();
        promise4FirstRules();
        promise5SetRun();
        promise6Wish();
        promise7Fix();
        Check.end("SettingUpTest");
    }

    private static void promise1NewObject() {
        CoverSheet desk = new CoverSheet();
        Check.due("1 people()", desk.people(), 0);
        Check.due("1 rounds()", desk.rounds(), 0);
        Check.due("1 gaps()", desk.gaps(), 0);
        Check.due("1 bound()", desk.bound(), 0);
        Check.due("1 couldTake(0, 1)", desk.couldTake(0, 1), 0);
        Check.due("1 closeWeek()", desk.closeWeek(), 1);
        CoverSheet other = new CoverSheet();
        other.addPerson(2, 7);
        Check.due("1 people() of another desk", desk.people(), 0);
    }

    private static void promise2AddPerson() {
        CoverSheet desk = new CoverSheet();
        for (int number = 0; number < 7; number++) {
            Check.due("2 addPerson", desk.addPerson(2 * number + 2, number), number);
        }
        Check.due("2 addPerson(14, 7)", desk.addPerson(14, 7), 7);
        Check.due("2 people()", desk.people(), 8);
        desk.setRun(14);
        Check.due("2 skills 2, most 0", desk.weeks(0), 1);
        Check.due("2 skills 4, most 1", desk.weeks(1), 8);
        Check.due("2 skills 8, most 3", desk.weeks(3), 64);
        for (int person = 0; person < 8; person++) {
            Check.due("2 the week of a new person", Check.week(desk, person), "0000000");
            Check.due("2 runBefore of a new person", desk.runBefore(person), 0);
            Check.due("2 weekends of a new person", desk.weekends(person), 0);
        }
        Check.state(desk, "2 the ninth person", () -> desk.addPerson(14, 7));
        Check.argument(desk, "2 the ninth person with wrong skills", () -> desk.addPerson(1, 7));
        Check.argument(desk, "2 the ninth person with a wrong most", () -> desk.addPerson(2, 8));
    }

    private static void promise2Refusals() {
        CoverSheet desk = new CoverSheet();
        int[] wrongSkills = {0, 1, 3, 5, 13, 15, 16, 18, 30, -2, -14, Integer.MIN_VALUE, Integer.MAX_VALUE};
        for (int skills : wrongSkills) {
            Check.argument(desk, "2 addPerson(" + skills + ", 5)", () -> desk.addPerson(skills, 5));
        }
        int[] wrongMost = {-1, 8, Integer.MIN_VALUE, Integer.MAX_VALUE};
        for (int most : wrongMost) {
            Check.argument(desk, "2 addPerson(2, " + most + ")", () -> desk.addPerson(2, most));
        }
        Check.due("2 people() after refusals", desk.people(), 0);
    }

    private static void promise3SetNeed() {
        CoverSheet desk = new CoverSheet();
        for (int day = 0; day < 7; day++) {
            for (int kind = 1; kind <= 3; kind++) {
                Check.due("3 the first setNeed", desk.setNeed(day, kind, (day + kind) % 6), 0);
            }
        }
        for (int day = 0; day < 7; day++) {
            for (int kind = 1; kind <= 3; kind++) {
                Check.due("3 gap", desk.gap(day, kind), (day + kind) % 6);
                Check.due("3 the second setNeed", desk.setNeed(day, kind, 5), (day + kind) % 6);
            }
        }
        Check.due("3 gaps()", desk.gaps(), 105);
        Check.due("3 closeWeek()", desk.closeWeek(), 1);
        Check.due("3 needs stay", desk.setNeed(6, 3, 0), 5);
        Check.index(desk, "3 setNeed(-1, 1, 1)", () -> desk.setNeed(-1, 1, 1));
        Check.index(desk, "3 setNeed(7, 1, 1)", () -> desk.setNeed(7, 1, 1));
        Check.index(desk, "3 setNeed(0, 0, 1)", () -> desk.setNeed(0, 0, 1));
        Check.index(desk, "3 setNeed(0, 4, 1)", () -> desk.setNeed(0, 4, 1));
        Check.index(desk, "3 setNeed(1, -1, 1)", () -> desk.setNeed(1, -1, 1));
        Check.index(desk, "3 setNeed(7, 1, 9)", () -> desk.setNeed(7, 1, 9));
        Check.index(desk, "3 setNeed(0, 0, -9)", () -> desk.setNeed(0, 0, -9));
        Check.argument(desk, "3 setNeed(0, 1, 6)", () -> desk.setNeed(0, 1, 6));
        Check.argument(desk, "3 setNeed(6, 3, -1)", () -> desk.setNeed(6, 3, -1));
    }

    private static void promise4Forbid() {
        CoverSheet desk = new CoverSheet();
        desk.addPerson(14, 7);
        for (int kind = 1; kind <= 3; kind++) {
            for (int next = 1; next <= 3; next++) {
                boolean isFirst = kind > next;
                Check.due("4 allow " + kind + " " + next, desk.forbid(kind, next, false), isFirst);
                Check.due("4 forbid " + kind + " " + next, desk.forbid(kind, next, true), true);
                Check.due("4 forbid again " + kind + " " + next, desk.forbid(kind, next, true), false);
                Check.due("4 put back " + kind + " " + next, desk.forbid(kind, next, isFirst), !isFirst);
            }
        }
        desk.set(0, 2, 1);
        desk.set(0, 3, 2);
        Check.due("4 forbid(1, 2, true)", desk.forbid(1, 2, true), true);
        Check.due("4 entries stay", Check.week(desk, 0), "0012000");
        Check.due("4 but break the rule", desk.isFeasible(0), false);
        Check.index(desk, "4 forbid(0, 1, true)", () -> desk.forbid(0, 1, true));
        Check.index(desk, "4 forbid(4, 1, true)", () -> desk.forbid(4, 1, true));
        Check.index(desk, "4 forbid(1, 0, true)", () -> desk.forbid(1, 0, true));
        Check.index(desk, "4 forbid(1, 4, false)", () -> desk.forbid(1, 4, false));
        Check.index(desk, "4 forbid(-1, -1, false)", () -> desk.forbid(-1, -1, false));
    }

    private static void promise4FirstRules() {
        for (int kind = 1; kind <= 3; kind++) {
            for (int next = 1; next <= 3; next++) {
                CoverSheet desk = new CoverSheet();
                desk.addPerson(14, 7);
                int before = kind;
                int after = next;
                desk.set(0, 2, before);
                if (kind > next) {
                    Check.state(desk, "4 " + kind + " then " + next, () -> desk.set(0, 3, after));
                } else {
                    Check.due("4 " + kind + " then " + next, Check.answer(() -> desk.set(0, 3, after)), "0");
                }
            }
        }
    }

    private static void promise5SetRun() {
        CoverSheet desk = new CoverSheet();
        desk.addPerson(2, 7);
        for (int day = 0; day < 5; day++) {
            Check.due("5 set", desk.set(0, day, 1), 0);
        }
        Check.state(desk, "5 the sixth day in a row", () -> desk.set(0, 5, 1));
        Check.due("5 a day after a day off", desk.set(0, 6, 1), 0);
        Check.due("5 setRun(4)", desk.setRun(4), 5);
        Check.due("5 entries stay", Check.week(desk, 0), "1111101");
        Check.due("5 but break the rule", desk.isFeasible(0), false);
        Check.due("5 setRun(14)", desk.setRun(14), 4);
        Check.due("5 all seven", desk.set(0, 5, 1), 0);
        Check.due("5 setRun(1)", desk.setRun(1), 14);
        Check.argument(desk, "5 setRun(0)", () -> desk.setRun(0));
        Check.argument(desk, "5 setRun(15)", () -> desk.setRun(15));
        Check.argument(desk, "5 setRun(-1)", () -> desk.setRun(-1));
        Check.due("5 setRun(2)", desk.setRun(2), 1);
    }

    private static void promise6Wish() {
        CoverSheet desk = new CoverSheet();
        desk.addPerson(2, 7);
        desk.addPerson(2, 7);
        for (int day = 0; day < 7; day++) {
            int when = day;
            Check.due("6 wish none", desk.wish(0, when, false), false);
            Check.due("6 wish", desk.wish(0, when, true), true);
            Check.due("6 wish again", desk.wish(0, when, true), false);
            Check.due("6 the other's wish", desk.wish(1, when, false), false);
        }
        Check.due("6 wish no more", desk.wish(0, 3, false), true);
        Check.due("6 wish no more again", desk.wish(0, 3, false), false);
        Check.due("6 the day before", desk.wish(0, 2, true), false);
        Check.due("6 no wish is a rule", desk.set(0, 2, 1), 0);
        desk.closeWeek();
        Check.due("6 wishes are cleared", desk.wish(0, 0, true), true);
        Check.index(desk, "6 wish(2, 0, true)", () -> desk.wish(2, 0, true));
        Check.index(desk, "6 wish(-1, 0, true)", () -> desk.wish(-1, 0, true));
        Check.index(desk, "6 wish(0, 7, true)", () -> desk.wish(0, 7, true));
        Check.index(desk, "6 wish(1, -1, true)", () -> desk.wish(1, -1, true));
        Check.index(desk, "6 wish(8, 0, true)", () -> desk.wish(8, 0, true));
    }

    private static void promise7Fix() {
        CoverSheet desk = new CoverSheet();
        desk.addPerson(2, 7);
        desk.addPerson(14, 7);
        Check.due("7 the first", desk.fix(0, 3, 1), -1);
        Check.due("7 the roster stays", desk.entry(0, 3), 0);
        Check.due("7 but is not feasible", desk.isFeasible(0), false);
        Check.due("7 the second", desk.fix(0, 3, 0), 1);
        Check.due("7 off is fixed", desk.isFeasible(0), true);
        Check.state(desk, "7 a shift where off is fixed", () -> desk.set(0, 3, 1));
        Check.due("7 what is no skill", desk.fix(0, 3, 3), 0);
        Check.due("7 no week", desk.weeks(0), 0);
        Check.due("7 no skill", desk.fix(0, 3, CoverSheet.NONE), 3);
        Check.due("7 none", desk.fix(0, 3, CoverSheet.NONE), CoverSheet.NONE);
        Check.due("7 nothing of the other", desk.fix(1, 3, 2), -1);
        Check.due("7 nothing of the next day", desk.fix(1, 4, 3), -1);
        Check.due("7 nothing of the day before", desk.fix(1, 2, 1), -1);
        Check.due("7 still", desk.fix(1, 3, 2), 2);
        desk.closeWeek();
        Check.due("7 cleared", desk.fix(1, 3, -1), -1);
        Check.index(desk, "7 fix(2, 0, 1)", () -> desk.fix(2, 0, 1));
        Check.index(desk, "7 fix(-1, 0, 1)", () -> desk.fix(-1, 0, 1));
        Check.index(desk, "7 fix(0, 7, 1)", () -> desk.fix(0, 7, 1));
        Check.index(desk, "7 fix(0, -1, 9)", () -> desk.fix(0, -1, 9));
        Check.argument(desk, "7 fix(0, 0, 4)", () -> desk.fix(0, 0, 4));
        Check.argument(desk, "7 fix(0, 0, -2)", () -> desk.fix(0, 0, -2));
    }
}
