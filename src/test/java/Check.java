/** Counts the wrong answers of a test and tells them. */
final class Check {
    interface Call {
        Object go();
    }

    private static int wrong = 0;
    private static int looked = 0;

    private Check() {
    }

    static void due(String what, Object got, Object want) {
        looked++;
        if (!want.equals(got)) {
            wrong++;
            System.out.println(what + " answered " + got + ", due is " + want);
        }
    }

    /** The answer of a call, or the name of the exception that it throws. */
    static String answer(Call call) {
        try {
            return String.valueOf(call.go());
        } catch (RuntimeException thrown) {
            return "throws." + thrown.getClass().getSimpleName();
        }
    }

    /** A call that is refused throws just that exception and leaves the desk as it was. */
    static void refused(CoverSheet desk, String what, Class<? extends RuntimeException> due, Call call) {
        String before = stateOf(desk);
        due(what, answer(call), "throws." + due.getSimpleName());
        due("the state after " + what, stateOf(desk), before);
    }

    static void index(CoverSheet desk, String what, Call call) {
        refused(desk, what, IndexOutOfBoundsException.class, call);
    }

    static void argument(CoverSheet desk, String what, Call call) {
        refused(desk, what, IllegalArgumentException.class, call);
    }

    static void state(CoverSheet desk, String what, Call call) {
        refused(desk, what, IllegalStateException.class, call);
    }

    // This takes more than the 512 calls that the document promises; the class does not count calls.
    /** All that can be read of a desk; what only a change tells is changed and put back. */
    static String stateOf(CoverSheet desk) {
        StringBuilder text = new StringBuilder();
        text.append(desk.people()).append(" r").append(desk.rounds()).append(" g").append(desk.gaps());
        text.append(" b").append(desk.bound());
        int run = desk.setRun(1);
        desk.setRun(run);
        text.append(" run").append(run);
        for (int kind = 1; kind <= 3; kind++) {
            for (int next = 1; next <= 3; next++) {
                boolean isChanged = desk.forbid(kind, next, true);
                if (isChanged) {
                    desk.forbid(kind, next, false);
                }
                text.append(isChanged ? " allowed" : " forbidden");
            }
        }
        for (int day = 0; day < 7; day++) {
            for (int kind = 1; kind <= 3; kind++) {
                int need = desk.setNeed(day, kind, 0);
                desk.setNeed(day, kind, need);
                text.append(' ').append(need).append('/').append(desk.gap(day, kind));
            }
        }
        for (int person = 0; person < desk.people(); person++) {
            text.append("\n").append(stateOf(desk, person));
        }
        return text.toString();
    }

    private static String stateOf(CoverSheet desk, int person) {
        StringBuilder text = new StringBuilder();
        text.append(desk.shifts(person)).append(' ').append(desk.weekends(person)).append(' ');
        text.append(desk.broken(person)).append(' ').append(desk.runBefore(person)).append(' ');
        text.append(desk.isFeasible(person)).append(' ').append(desk.weeksByDays(person));
        for (int day = 0; day < 7; day++) {
            boolean isWished = !desk.wish(person, day, true);
            if (!isWished) {
                desk.wish(person, day, false);
            }
            int fixed = desk.fix(person, day, CoverSheet.NONE);
            desk.fix(person, day, fixed);
            text.append(' ').append(desk.entry(person, day)).append('f').append(fixed).append(isWished);
        }
        return text.toString();
    }

    /** The entries of a person as seven digits. */
    static String week(CoverSheet desk, int person) {
        StringBuilder text = new StringBuilder();
        for (int day = 0; day < 7; day++) {
            text.append(desk.entry(person, day));
        }
        return text.toString();
    }

    static void end(String name) {
        System.out.println(name + ": " + looked + " answers looked at, " + wrong + " wrong");
        if (wrong != 0 || looked == 0) {
            System.exit(1);
        }
    }
}
