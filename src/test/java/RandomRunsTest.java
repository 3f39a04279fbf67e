/** Long runs of calls, right and wrong ones, each answered by the class and by the plain model. */
public final class RandomRunsTest {
    private static final int RUNS = 120;
    private static final int CALLS = 512;

    private final CoverSheet desk = new CoverSheet();
    private final PlainDesk plain = new PlainDesk();
    private final int style;
    private long seed;
    private String told = "";

    private RandomRunsTest(int run) {
        style = run % 6;
        seed = 77L + run;
    }

    public static void main(String[] args) {
        for (int run = 0; run < RUNS; run++) {
            new RandomRunsTest(run).go(run);
        }
        Check.end("RandomRunsTest");
    }

    /** A number from low to high. */
    private int any(int low, int high) {
        seed = seed * 6364136223846793005L + 1442695040888963407L;
        return low + (int) ((seed >>> 33) % (high - low + 1));
    }

    private int person() {
        return any(0, 40) == 0 ? any(-1, 9) : any(0, Math.max(0, plain.humans.size() - 1));
    }

    private int day() {
        return any(0, 60) == 0 ? any(-2, 8) : any(0, 6);
    }

    private int kind() {
        return any(0, 60) == 0 ? any(-1, 5) : any(1, 3);
    }

    private void go(int run) {
        int people = any(1, 8);
        for (int number = 0; number < people; number++) {
            addOne();
        }
        for (int day = 0; day < 7; day++) {
            for (int kind = 1; kind <= 3; kind++) {
                setNeed(day, kind, any(0, style == 1 ? 5 : 2));
            }
        }
        for (int call = 0; call < CALLS - people - 21; call++) {
            told = "run " + run + ", call " + call + ": ";
            one(any(0, 99));
        }
    }

    private void same(String call, Check.Call mine, Check.Call due) {
        Check.due(told + call, Check.answer(mine), Check.answer(due));
    }

    private void addOne() {
        int skills = any(0, 30) == 0 ? any(-3, 20) : style == 2 ? 14 : 2 * any(1, 7);
        int most = any(0, 30) == 0 ? any(-2, 9) : style == 2 ? 7 : any(2, 7);
        same("addPerson(" + skills + ", " + most + ")",
                () -> desk.addPerson(skills, most), () -> plain.addPerson(skills, most));
    }

    private void setNeed(int day, int kind, int need) {
        same("setNeed(" + day + ", " + kind + ", " + need + ")",
                () -> desk.setNeed(day, kind, need), () -> plain.setNeed(day, kind, need));
    }

    private void one(int draw) {
        if (draw < 26) {
            setUp(draw);
        } else if (draw < 62) {
            planning(draw);
        } else if (draw < 82) {
            roster(draw);
        } else {
            possible(draw);
        }
    }

    private void setUp(int draw) {
        int person = person();
        int day = day();
        if (draw < 2) {
            addOne();
        } else if (draw < 8) {
            setNeed(day, kind(), any(0, 40) == 0 ? any(-2, 8) : any(0, 4));
        } else if (draw < 11) {
            int kind = kind();
            int next = kind();
            boolean is = style == 2 ? any(0, 5) == 0 : any(0, 1) == 0;
            same("forbid(" + kind + ", " + next + ", " + is + ")",
                    () -> desk.forbid(kind, next, is), () -> plain.forbid(kind, next, is));
        } else if (draw < 13) {
            int days = any(0, 20) == 0 ? any(-1, 16) : style == 2 ? any(7, 14) : any(1, 14);
            same("setRun(" + days + ")", () -> desk.setRun(days), () -> plain.setRun(days));
        } else if (draw < 20) {
            boolean is = any(0, 2) > 0;
            same("wish(" + person + ", " + day + ", " + is + ")",
                    () -> desk.wish(person, day, is), () -> plain.wish(person, day, is));
        } else {
            int entry = any(0, 20) == 0 ? any(-3, 6) : style != 3 && any(0, 3) > 0 ? -1 : any(0, 3);
            same("fix(" + person + ", " + day + ", " + entry + ")",
                    () -> desk.fix(person, day, entry), () -> plain.fix(person, day, entry));
        }
    }

    private void planning(int draw) {
        int person = person();
        int other = person();
        int day = day();
        if (draw < 28) {
            same("plan()", () -> desk.plan(), () -> plain.plan());
            allEntries();
        } else if (draw < 30) {
            same("rounds()", () -> desk.rounds(), () -> plain.rounds);
        } else if (draw < 48) {
            int entry = any(0, 40) == 0 ? any(-2, 5) : any(0, 3);
            same("set(" + person + ", " + day + ", " + entry + ")",
                    () -> desk.set(person, day, entry), () -> plain.set(person, day, entry));
        } else if (draw < 60) {
            same("swap(" + person + ", " + other + ", " + day + ")",
                    () -> desk.swap(person, other, day), () -> plain.swap(person, other, day));
        } else if (any(0, 2) > 0) {
            same("closeWeek()", () -> desk.closeWeek(), () -> plain.closeWeek());
            allEntries();
        }
    }

    private void allEntries() {
        for (int person = 0; person < plain.humans.size(); person++) {
            for (int day = 0; day < 7; day++) {
                int who = person;
                int when = day;
                same("entry(" + who + ", " + when + ")",
                        () -> desk.entry(who, when), () -> plain.entry(who, when));
            }
        }
    }

    private void roster(int draw) {
        int person = person();
        int day = day();
        int kind = kind();
        String who = "(" + person + ")";
        if (draw < 63) {
            same("people()", () -> desk.people(), () -> plain.humans.size());
        } else if (draw < 66) {
            same("entry(" + person + ", " + day + ")",
                    () -> desk.entry(person, day), () -> plain.entry(person, day));
        } else if (draw < 68) {
            same("gaps()", () -> desk.gaps(), () -> plain.gaps());
        } else if (draw < 71) {
            same("gap(" + day + ", " + kind + ")", () -> desk.gap(day, kind), () -> plain.gap(day, kind));
        } else if (draw < 74) {
            same("shifts" + who, () -> desk.shifts(person), () -> plain.shifts(person));
        } else if (draw < 76) {
            same("weekends" + who, () -> desk.weekends(person), () -> plain.weekends(person));
        } else if (draw < 79) {
            same("broken" + who, () -> desk.broken(person), () -> plain.broken(person));
        } else {
            same("runBefore" + who, () -> desk.runBefore(person), () -> plain.runBefore(person));
        }
    }

    private void possible(int draw) {
        int person = person();
        int day = day();
        int kind = kind();
        String who = "(" + person + ")";
        if (draw < 85) {
            same("isFeasible" + who, () -> desk.isFeasible(person), () -> plain.isFeasible(person));
        } else if (draw < 87) {
            same("weeks" + who, () -> desk.weeks(person), () -> plain.weeks(person));
        } else if (draw < 89) {
            same("weeksByDays" + who, () -> desk.weeksByDays(person), () -> plain.weeks(person));
        } else if (draw < 92) {
            same("couldTake(" + day + ", " + kind + ")",
                    () -> desk.couldTake(day, kind), () -> plain.couldTake(day, kind));
        } else if (draw < 97) {
            same("swapFor(" + person + ", " + day + ")",
                    () -> desk.swapFor(person, day), () -> plain.swapFor(person, day));
        } else {
            same("bound()", () -> desk.bound(), () -> plain.bound());
        }
    }
}
