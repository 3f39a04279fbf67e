/** What the tests of the edges share: desks that are made, and calls that are refused. */
final class Edge {
    interface Maker {
        void make(CoverSheet desk);
    }

    interface Call {
        Object go(CoverSheet desk);
    }

    static final int ALL_KINDS = 14;
    static final int MIN = Integer.MIN_VALUE;
    static final int MAX = Integer.MAX_VALUE;

    private Edge() {
    }

    static CoverSheet made(Maker maker) {
        CoverSheet desk = new CoverSheet();
        maker.make(desk);
        return desk;
    }

    /** People of all skills, of whom each may have seven shifts. */
    static CoverSheet people(int count) {
        return made(desk -> add(desk, count));
    }

    /** People of all skills on a desk where no kind is forbidden after another, with a run of 14. */
    static CoverSheet freePeople(int count) {
        return made(desk -> {
            add(desk, count);
            free(desk);
        });
    }

    static void add(CoverSheet desk, int count) {
        for (int number = 0; number < count; number++) {
            desk.addPerson(ALL_KINDS, 7);
        }
    }

    static void free(CoverSheet desk) {
        desk.setRun(14);
        desk.forbid(2, 1, false);
        desk.forbid(3, 1, false);
        desk.forbid(3, 2, false);
    }

    /** Sets the shifts of a week that is told as seven digits. */
    static void work(CoverSheet desk, int person, String week) {
        for (int day = 0; day < week.length(); day++) {
            if (week.charAt(day) != '0') {
                desk.set(person, day, week.charAt(day) - '0');
            }
        }
    }

    static void need(CoverSheet desk, int kind, String people) {
        for (int day = 0; day < people.length(); day++) {
            desk.setNeed(day, kind, people.charAt(day) - '0');
        }
    }

    /** Three people, a closed week, and something of all that can be told to a desk. */
    static void busy(CoverSheet desk) {
        desk.addPerson(14, 7);
        desk.addPerson(6, 3);
        desk.addPerson(10, 5);
        need(desk, 1, "2100111");
        need(desk, 3, "0110012");
        desk.setNeed(3, 2, 5);
        desk.forbid(1, 3, true);
        desk.forbid(2, 1, false);
        desk.setRun(4);
        desk.plan();
        desk.closeWeek();
        desk.wish(0, 0, true);
        desk.wish(1, 6, true);
        desk.wish(2, 3, true);
        desk.fix(2, 6, 3);
        desk.fix(1, 0, 0);
        desk.plan();
        desk.set(0, 0, 0);
    }

    static void refusesIndex(String what, Maker maker, Call call) {
        refuses(what, IndexOutOfBoundsException.class, maker, call);
    }

    static void refusesArgument(String what, Maker maker, Call call) {
        refuses(what, IllegalArgumentException.class, maker, call);
    }

    static void refusesState(String what, Maker maker, Call call) {
        refuses(what, IllegalStateException.class, maker, call);
    }

    // A twin desk that never saw the call tells what is left behind; so no desk has more than 512 calls.
    /** A call throws just that exception, and leaves nothing behind on the desk. */
    static void refuses(String what, Class<? extends RuntimeException> due, Maker maker, Call call) {
        CoverSheet desk = made(maker);
        Check.due(what, Check.answer(() -> call.go(desk)), "throws." + due.getSimpleName());
        Check.due("what is left behind by " + what, readAll(desk), readAll(made(maker)));
    }

    /** A call answers, and leaves nothing behind on the desk. */
    static void asks(String what, Object due, Maker maker, Call call) {
        CoverSheet desk = made(maker);
        Check.due(what, call.go(desk), due);
        Check.due("what is left behind by " + what, readAll(desk), readAll(made(maker)));
    }

    /** All that can be read of a desk, with some 300 calls; the desk is used up by it. */
    static String readAll(CoverSheet desk) {
        StringBuilder text = new StringBuilder();
        int people = desk.people();
        text.append(people).append(" r").append(desk.rounds()).append(" g").append(desk.gaps());
        text.append(" b").append(desk.bound());
        for (int person = 0; person < people; person++) {
            text.append("\n").append(Check.week(desk, person)).append(' ').append(desk.shifts(person));
            text.append(' ').append(desk.broken(person)).append(' ').append(desk.isFeasible(person));
            text.append(' ').append(desk.weeksByDays(person));
        }
        readRules(desk, text);
        for (int person = 0; person < people; person++) {
            text.append("\n");
            for (int day = 0; day < 7; day++) {
                text.append(desk.fix(person, day, CoverSheet.NONE));
                text.append(desk.wish(person, day, true) ? "- " : "w ");
            }
            text.append(desk.weekends(person)).append(' ').append(desk.runBefore(person));
        }
        text.append("\nclosed ").append(desk.closeWeek());
        for (int person = 0; person < people; person++) {
            text.append(' ').append(desk.weekends(person)).append(' ').append(desk.runBefore(person));
            text.append(' ').append(desk.weeksByDays(person));
        }
        return text.toString();
    }

    private static void readRules(CoverSheet desk, StringBuilder text) {
        for (int day = 0; day < 7; day++) {
            for (int kind = 1; kind <= 3; kind++) {
                text.append(' ').append(desk.gap(day, kind)).append('/').append(desk.setNeed(day, kind, 0));
            }
        }
        text.append(" run ").append(desk.setRun(14));
        for (int kind = 1; kind <= 3; kind++) {
            for (int next = 1; next <= 3; next++) {
                text.append(desk.forbid(kind, next, false) ? " forbidden" : " allowed");
            }
        }
    }
}
