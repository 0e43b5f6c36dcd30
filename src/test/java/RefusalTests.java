import java.util.ArrayList;
import java.util.List;
import java.util.concurrent.Callable;
import java.util.function.Consumer;
import java.util.function.Supplier;

/** Which refusal comes first, and that what is refused changes nothing, for each method. */
public final class RefusalTests {
    private static final Class<IllegalArgumentException> UNKNOWN = Due.UNKNOWN;
    private static final Class<IndexOutOfBoundsException> RANGE = Due.RANGE;
    private static final Class<IllegalStateException> STATE = Due.STATE;
    private static final Class<UnsupportedOperationException> NO_ROOM = Due.NO_ROOM;

    private final Due due = new Due();

    public static void main(String[] args) {
        RefusalTests tests = new RefusalTests();
        tests.due.runTestsOf(tests);
        tests.due.end();
    }

    /** Answers of an object: asked before and behind a refused call, they must be the same. */
    private static final class Answers {
        final TrainingRows x;
        final List<String> told = new ArrayList<>();

        Answers(TrainingRows x) {
            this.x = x;
        }

        void ask(String what, Callable<?> call) {
            told.add(what + " -> " + Due.answerOf(call));
        }

        void step(String what, Due.Step step) {
            told.add(what + " -> " + Due.answerOf(step));
        }
    }

    /**
     * Day 3 of four courses: 1 needs 0 and 3 needs 1; 0 and 1 have room, 2 is full for the day, and
     * 3 has no result. Person 2 has failed three times, person 6 has lapsed, and a plan stands.
     */
    private static TrainingRows busy() {
        TrainingRows x = new TrainingRows();
        x.course(10, 50, 3);
        x.course(20, 60, 2);
        x.course(3, 0, 0);
        x.course(5, 100, 50);
        x.need(1, 0);
        x.need(3, 1);
        x.pause(4);
        x.ratio(0, 7);
        x.found(0, 0);
        x.teach(0, 0, true);
        x.found(6, 2);
        x.day(1);
        x.found(0, 1);
        x.teach(0, 1, true);
        x.teach(6, 2, true);
        x.result(5, 2, 0);
        x.teach(5, 2, true);
        x.teach(6, 2, false);
        x.result(1, 0, 50);
        x.result(1, 1, 60);
        x.use(1, 0);
        for (int i = 0; i < 3; i++) {
            x.result(2, 0, 49);
        }
        x.day(3);
        x.use(1, 0);
        x.use(0, 0);
        x.result(3, 0, 80);
        x.result(19, 2, 0);
        x.ratio(2, 1);
        x.plan(0x2010L, 4, 12);
        return x;
    }

    /** 16 courses and 300 results, on a day with room for more tries of course 0. */
    private static TrainingRows full() {
        TrainingRows x = Setups.withResults(300);
        for (int course = 2; course < 16; course++) {
            x.course(10, 50, 2);
        }
        x.day(30);
        x.plan(0L, 2, 2100);
        return x;
    }

    private static void look(Answers a, int[] persons, int courses, int[] days) {
        TrainingRows x = a.x;
        for (int person : persons) {
            for (int number = 0; number < courses; number++) {
                int course = number;
                a.ask("lapse " + person + " " + course, () -> x.lapse(person, course));
                a.ask("failed " + person + " " + course, () -> x.failed(person, course));
                a.ask("barred " + person + " " + course, () -> x.barred(person, course));
                for (int day : days) {
                    a.ask("holds on " + day, () -> x.holds(person, course, day));
                }
            }
        }
        for (int number = 0; number < 13; number++) {
            int seat = number;
            a.ask("seated " + seat, () -> x.seated(seat));
        }
        for (int number = 0; number < 4; number++) {
            int which = number;
            a.ask("room " + which, () -> x.room(which));
            a.ask("count " + which, () -> x.count(which));
            a.ask("tomorrow " + which, () -> x.tomorrow(which, 0));
        }
    }

    private static void lookAtBusy(Answers a) {
        look(a, new int[] {0, 1, 2, 3, 4, 5, 6, 19}, 4, new int[] {0, 2, 3, 9, 13});
    }

    private static void lookAtFull(Answers a) {
        look(a, new int[] {0, 1, 2}, 3, new int[] {0, 30, 2000});
    }

    /** What a refused call could have left behind shows when the calls go on. */
    private static void goOnFromBusy(Answers a) {
        TrainingRows x = a.x;
        a.step("day 2", () -> x.day(2));
        a.step("day 3", () -> x.day(3));
        a.ask("one more course", () -> x.course(7, 70, 7));
        useAndTry(a);
        a.step("day 4", () -> x.day(4));
        a.ask("barred on day 4", () -> x.barred(2, 0));
        useAndTry(a);
        a.step("day 5", () -> x.day(5));
        a.ask("barred on day 5", () -> x.barred(2, 0));
        useAndTry(a);
        for (int number = 0; number < 25; number++) {
            int course = number / 5;
            int other = number % 5;
            a.step("need " + course + " " + other, () -> x.need(course, other));
        }
        a.ask("plan", () -> x.plan(0x3210L, 4, 2100));
    }

    private static void useAndTry(Answers a) {
        TrainingRows x = a.x;
        for (int number = 0; number < 20; number++) {
            int person = number / 4;
            int course = number % 4;
            a.ask("use " + person + " " + course, () -> x.use(person, course));
            a.ask("room " + course, () -> x.room(course));
            a.ask("result " + person + " " + course, () -> x.result(person, course, 60));
        }
        for (int number = 0; number < 8; number++) {
            int person = number;
            boolean on = number % 2 == 0;
            a.step("teach " + person, () -> x.teach(person, 0, on));
        }
        a.ask("found", () -> x.found(4, 3));
    }

    private static void goOnFromFull(Answers a) {
        TrainingRows x = a.x;
        a.step("day 30", () -> x.day(30));
        a.ask("one more course", () -> x.course(7, 70, 7));
        a.ask("found", () -> x.found(4, 15));
        a.ask("found by another", () -> x.found(5, 1));
        a.ask("result", () -> x.result(4, 0, 60));
        a.step("teach", () -> x.teach(1, 0, true));
        a.ask("use", () -> x.use(0, 0));
        a.ask("need", () -> x.barred(1, 1));
        a.step("need 15 1", () -> x.need(15, 1));
        a.step("day 31", () -> x.day(31));
        a.ask("room", () -> x.room(0));
    }

    private void changesNothing(
            String what,
            Class<? extends RuntimeException> want,
            Consumer<TrainingRows> call) {
        refusedAmong(what, want, call, RefusalTests::busy, RefusalTests::lookAtBusy);
        refusedAmong(what, want, call, RefusalTests::busy, RefusalTests::goOnFromBusy);
    }

    private void changesNothingWhenFull(
            String what,
            Class<? extends RuntimeException> want,
            Consumer<TrainingRows> call) {
        refusedAmong(what, want, call, RefusalTests::full, RefusalTests::lookAtFull);
        refusedAmong(what, want, call, RefusalTests::full, RefusalTests::goOnFromFull);
    }

    private void refusedAmong(
            String what,
            Class<? extends RuntimeException> want,
            Consumer<TrainingRows> call,
            Supplier<TrainingRows> state,
            Consumer<Answers> look) {
        Answers without = new Answers(state.get());
        Answers with = new Answers(state.get());
        due.refusesStep(what, want, () -> call.accept(with.x));
        due.refusesStep(what + ", asked again", want, () -> call.accept(with.x));
        look.accept(without);
        look.accept(with);
        for (int i = 0; i < without.told.size(); i++) {
            due.same("behind " + what, without.told.get(i), with.told.get(i));
        }
    }

    @Says("What is refused changes nothing.")
    void theStatesAreAsTold() {
        TrainingRows x = busy();
        due.is("course 0 has room", 6, () -> x.room(0));
        due.is("course 1 has room", 3, () -> x.room(1));
        due.is("course 2 is full", 0, () -> x.room(2));
        due.is("person 2 is barred by fails", 3, () -> x.barred(2, 0));
        due.is("person 6 has lapsed", 3, () -> x.lapse(6, 2));
        due.seats("the plan", x, 0, -1, 1, 5);
        TrainingRows y = full();
        due.is("16 courses", 16, () -> y.count(0));
        due.is("300 results", 300, () -> y.count(1));
        due.is("room", 10, () -> y.room(0));
    }

    @Says("What is refused changes nothing.")
    void course() {
        changesNothing("term 0", RANGE, x -> x.course(0, 50, 2));
        changesNothing("term 2,001", RANGE, x -> x.course(2001, 50, 2));
        changesNothing("pass mark -1", RANGE, x -> x.course(10, -1, 2));
        changesNothing("pass mark 101", RANGE, x -> x.course(10, 101, 2));
        changesNothing("cap -1", RANGE, x -> x.course(10, 50, -1));
        changesNothing("cap 51", RANGE, x -> x.course(10, 50, 51));
        changesNothingWhenFull("a 17th course", NO_ROOM, x -> x.course(5, 20, 30));
    }

    @Says("What is refused changes nothing.")
    void need() {
        changesNothing("an unknown course", UNKNOWN, x -> x.need(4, 0));
        changesNothing("an unknown other", UNKNOWN, x -> x.need(0, 4));
        changesNothing("course -1", UNKNOWN, x -> x.need(-1, 0));
        changesNothing("other -1", UNKNOWN, x -> x.need(0, -1));
        changesNothing("itself", STATE, x -> x.need(2, 2));
        changesNothing("a circle of two", STATE, x -> x.need(0, 1));
        changesNothing("a circle of three", STATE, x -> x.need(0, 3));
        changesNothing("told already", STATE, x -> x.need(1, 0));
    }

    @Says("What is refused changes nothing.")
    void pause() {
        changesNothing("-1", RANGE, x -> x.pause(-1));
        changesNothing("1,001", RANGE, x -> x.pause(1001));
    }

    @Says("What is refused changes nothing.")
    void day() {
        changesNothing("a day back", RANGE, x -> x.day(2));
        changesNothing("day 0", RANGE, x -> x.day(0));
        changesNothing("day -1", RANGE, x -> x.day(-1));
        changesNothing("day 10,000", RANGE, x -> x.day(10000));
    }

    @Says("What is refused changes nothing.")
    void ratio() {
        changesNothing("an unknown course", UNKNOWN, x -> x.ratio(4, 5));
        changesNothing("-1", RANGE, x -> x.ratio(0, -1));
        changesNothing("11", RANGE, x -> x.ratio(0, 11));
    }

    @Says("What is refused changes nothing.")
    void result() {
        changesNothing("an unknown person", UNKNOWN, x -> x.result(20, 0, 50));
        changesNothing("an unknown course", UNKNOWN, x -> x.result(1, 4, 50));
        changesNothing("mark -1", RANGE, x -> x.result(1, 0, -1));
        changesNothing("mark 101", RANGE, x -> x.result(1, 0, 101));
        for (int mark = 0; mark <= 100; mark += 100) {
            int told = mark;
            changesNothing("barred by a need", STATE, x -> x.result(4, 1, told));
            changesNothing("barred as an instructor", STATE, x -> x.result(0, 0, told));
            changesNothing("barred by fails", STATE, x -> x.result(2, 0, told));
            changesNothing("a full day", NO_ROOM, x -> x.result(4, 2, told));
            changesNothing("without an instructor", NO_ROOM, x -> x.result(1, 3, told));
            changesNothingWhenFull("a 301st result", NO_ROOM, x -> x.result(1, 0, told));
        }
    }

    @Says("What is refused changes nothing.")
    void found() {
        changesNothing("an unknown person", UNKNOWN, x -> x.found(20, 3));
        changesNothing("an unknown course", UNKNOWN, x -> x.found(1, 4));
        changesNothing("the same person", STATE, x -> x.found(0, 0));
        changesNothing("another person", STATE, x -> x.found(4, 0));
        changesNothing("who has lapsed", STATE, x -> x.found(6, 2));
        changesNothingWhenFull("a 301st result", NO_ROOM, x -> x.found(1, 1));
    }

    @Says("What is refused changes nothing.")
    void teach() {
        changesNothing("an unknown person", UNKNOWN, x -> x.teach(20, 0, true));
        changesNothing("an unknown course", UNKNOWN, x -> x.teach(1, 4, true));
        changesNothing("told already", STATE, x -> x.teach(0, 0, true));
        changesNothing("not told", STATE, x -> x.teach(1, 0, false));
        changesNothing("without a pass", STATE, x -> x.teach(4, 0, true));
        changesNothing("after fails", STATE, x -> x.teach(2, 0, true));
        changesNothing("who has lapsed", STATE, x -> x.teach(6, 2, true));
    }

    @Says("What is refused changes nothing.")
    void use() {
        changesNothing("an unknown person", UNKNOWN, x -> x.use(20, 0));
        changesNothing("an unknown course", UNKNOWN, x -> x.use(1, 4));
        changesNothing("without a pass", STATE, x -> x.use(4, 0));
        changesNothing("after fails", STATE, x -> x.use(2, 0));
        changesNothing("who has lapsed", STATE, x -> x.use(6, 2));
    }

    @Says("What is refused changes nothing.")
    void questions() {
        changesNothing("holds of an unknown person", UNKNOWN, x -> x.holds(20, 0, 3));
        changesNothing("holds of an unknown course", UNKNOWN, x -> x.holds(1, 4, 3));
        changesNothing("holds on day -1", RANGE, x -> x.holds(1, 0, -1));
        changesNothing("holds on day 10,000", RANGE, x -> x.holds(1, 0, 10000));
        changesNothing("lapse of an unknown person", UNKNOWN, x -> x.lapse(20, 0));
        changesNothing("lapse of an unknown course", UNKNOWN, x -> x.lapse(1, 4));
        changesNothing("failed of an unknown person", UNKNOWN, x -> x.failed(20, 0));
        changesNothing("failed of an unknown course", UNKNOWN, x -> x.failed(1, 4));
        changesNothing("barred of an unknown person", UNKNOWN, x -> x.barred(20, 0));
        changesNothing("barred of an unknown course", UNKNOWN, x -> x.barred(1, 4));
        changesNothing("room of an unknown course", UNKNOWN, x -> x.room(4));
        changesNothing("an unknown seat", UNKNOWN, x -> x.seated(4));
        changesNothing("tomorrow of an unknown course", UNKNOWN, x -> x.tomorrow(4, 0));
        changesNothing("tomorrow, place -1", RANGE, x -> x.tomorrow(0, -1));
        changesNothing("count of an unknown what", UNKNOWN, x -> x.count(4));
    }

    @Says("What is refused changes nothing.")
    void plan() {
        changesNothing("an unknown course on seat 0", UNKNOWN, x -> x.plan(4L, 1, 12));
        changesNothing("an unknown course on seat 3", UNKNOWN, x -> x.plan(0x4012L, 4, 12));
        changesNothing("an unknown course on seat 11", UNKNOWN, x -> x.plan(4L << 44, 12, 12));
        changesNothing("13 seats", RANGE, x -> x.plan(0L, 13, 12));
        changesNothing("-1 seats", RANGE, x -> x.plan(0L, -1, 12));
        changesNothing("-1 days", RANGE, x -> x.plan(0x0201L, 4, -1));
        changesNothing("2,101 days", RANGE, x -> x.plan(0x0201L, 4, 2101));
        changesNothing("2,101 days without seats", RANGE, x -> x.plan(0L, 0, 2101));
    }

    @Says("Refusals, in this order: .. a number outside its range .. no room")
    void orderOfCourse() {
        TrainingRows x = full();
        due.refuses("term 0 of a 17th", RANGE, () -> x.course(0, 50, 2));
        due.refuses("term 2,001 of a 17th", RANGE, () -> x.course(2001, 50, 2));
        due.refuses("pass mark -1 of a 17th", RANGE, () -> x.course(10, -1, 2));
        due.refuses("pass mark 101 of a 17th", RANGE, () -> x.course(10, 101, 2));
        due.refuses("cap -1 of a 17th", RANGE, () -> x.course(10, 50, -1));
        due.refuses("cap 51 of a 17th", RANGE, () -> x.course(10, 50, 51));
        due.refuses("a 17th", NO_ROOM, () -> x.course(10, 50, 50));
    }

    @Says("Refusals, in this order: an unknown number .. not in this state")
    void orderOfNeed() {
        TrainingRows x = busy();
        due.refusesStep("an unknown one of itself", UNKNOWN, () -> x.need(4, 4));
        due.refusesStep("-1 of itself", UNKNOWN, () -> x.need(-1, -1));
        due.refusesStep("both are unknown", UNKNOWN, () -> x.need(4, -1));
        due.refusesStep("a known one of itself", STATE, () -> x.need(3, 3));
    }

    @Says("Refusals, in this order: an unknown number .. a number outside its range")
    void orderOfRatio() {
        TrainingRows x = busy();
        due.refusesStep("an unknown course with 11", UNKNOWN, () -> x.ratio(4, 11));
        due.refusesStep("course -1 with -1", UNKNOWN, () -> x.ratio(-1, -1));
        due.refusesStep("a known course with 11", RANGE, () -> x.ratio(3, 11));
    }

    @Says("Refusals, in this order: an unknown number ..")
    void orderOfResultUnknownFirst() {
        TrainingRows x = busy();
        due.refuses("person 20, mark 101", UNKNOWN, () -> x.result(20, 0, 101));
        due.refuses("person -1, mark -1", UNKNOWN, () -> x.result(-1, 0, -1));
        due.refuses("person 20, a course that is full", UNKNOWN, () -> x.result(20, 2, 50));
        due.refuses("person 20, a course with needs", UNKNOWN, () -> x.result(20, 1, 50));
        due.refuses("course 4, mark 101", UNKNOWN, () -> x.result(2, 4, 101));
        due.refuses("course -1, mark -1", UNKNOWN, () -> x.result(2, -1, -1));
        due.refuses("both, mark 101", UNKNOWN, () -> x.result(20, 4, 101));
        TrainingRows y = full();
        due.refuses("person 20, 300 results", UNKNOWN, () -> y.result(20, 0, 50));
        due.refuses("course 16, 300 results", UNKNOWN, () -> y.result(1, 16, 50));
    }

    @Says("Refusals, in this order: .. a number outside its range ..")
    void orderOfResultRangeSecond() {
        TrainingRows x = busy();
        for (int mark = -1; mark <= 101; mark += 102) {
            int told = mark;
            due.refuses("barred by a need", RANGE, () -> x.result(4, 1, told));
            due.refuses("barred as an instructor", RANGE, () -> x.result(0, 0, told));
            due.refuses("barred by fails", RANGE, () -> x.result(2, 0, told));
            due.refuses("a full day", RANGE, () -> x.result(4, 2, told));
        }
        TrainingRows y = full();
        due.refuses("300 results, mark 101", RANGE, () -> y.result(1, 0, 101));
        due.refuses("300 results, mark -1", RANGE, () -> y.result(1, 0, -1));
    }

    @Says("Refusals, in this order: .. not in this state .. no room")
    void orderOfResultStateThird() {
        TrainingRows x = busy();
        due.refuses("an instructor on a full day", STATE, () -> x.result(5, 2, 50));
        due.refuses("a need on a day without room", STATE, () -> x.result(4, 3, 50));
        x.ratio(0, 0);
        due.refuses("fails on a day without room", STATE, () -> x.result(2, 0, 50));
        due.refuses("nothing but no room", NO_ROOM, () -> x.result(4, 0, 50));
        TrainingRows y = full();
        y.need(15, 14);
        due.refuses("an instructor, 300 results", STATE, () -> y.result(0, 0, 50));
        due.refuses("a need, 300 results", STATE, () -> y.result(0, 15, 50));
        y.pause(1000);
        due.refuses("fails, 300 results", STATE, () -> y.result(1, 0, 50));
        due.refuses("nothing but 300 results", NO_ROOM, () -> y.result(2, 0, 50));
    }

    @Says("Refusals, in this order: an unknown number .. not in this state .. no room")
    void orderOfFound() {
        TrainingRows x = full();
        due.refuses("person 20 of a course with a result", UNKNOWN, () -> x.found(20, 0));
        due.refuses("person 20, 300 results", UNKNOWN, () -> x.found(20, 1));
        due.refuses("course 16, 300 results", UNKNOWN, () -> x.found(1, 16));
        due.refuses("a course with a result, 300 results", STATE, () -> x.found(1, 0));
        due.refuses("a course without one, 300 results", NO_ROOM, () -> x.found(1, 1));
    }

    @Says("Refusals, in this order: an unknown number .. not in this state")
    void orderOfTeachAndUse() {
        TrainingRows x = busy();
        due.refusesStep("person 20 is not told", UNKNOWN, () -> x.teach(20, 0, false));
        due.refusesStep("person 20 does not hold it", UNKNOWN, () -> x.teach(20, 0, true));
        due.refusesStep("nobody is told of course 4", UNKNOWN, () -> x.teach(0, 4, false));
        due.refusesStep("nobody holds course 4", UNKNOWN, () -> x.teach(0, 4, true));
        due.refuses("person 20 does not use it", UNKNOWN, () -> x.use(20, 0));
        due.refuses("nobody uses course 4", UNKNOWN, () -> x.use(0, 4));
    }

    @Says("Refusals, in this order: an unknown number .. a number outside its range")
    void orderOfHoldsAndTomorrow() {
        TrainingRows x = busy();
        due.refuses("person 20 on day -1", UNKNOWN, () -> x.holds(20, 0, -1));
        due.refuses("person -1 on day 10,000", UNKNOWN, () -> x.holds(-1, 0, 10000));
        due.refuses("course 4 on day -1", UNKNOWN, () -> x.holds(0, 4, -1));
        due.refuses("course -1 on day 10,000", UNKNOWN, () -> x.holds(0, -1, 10000));
        due.refuses("day 10,000 alone", RANGE, () -> x.holds(0, 0, 10000));
        due.refuses("place -1 of course 4", UNKNOWN, () -> x.tomorrow(4, -1));
        due.refuses("place -1 of course -1", UNKNOWN, () -> x.tomorrow(-1, -1));
        due.refuses("place -1 alone", RANGE, () -> x.tomorrow(0, -1));
    }

    @Says("Refusals, in this order: an unknown number .. a number outside its range")
    void orderOfPlan() {
        TrainingRows x = busy();
        due.refuses("course 4 of 13 seats", UNKNOWN, () -> x.plan(4L << 44, 13, 12));
        due.refuses("course 4 on -1 days", UNKNOWN, () -> x.plan(4L, 1, -1));
        due.refuses("course 4 on 2,101 days", UNKNOWN, () -> x.plan(4L << 44, 12, 2101));
        due.refuses("course 4 of 13 seats on 2,101 days", UNKNOWN, () -> x.plan(4L, 13, 2101));
        due.refuses("13 seats on 2,101 days", RANGE, () -> x.plan(0L, 13, 2101));
        due.refuses("-1 seats of course 4 on -1 days", RANGE, () -> x.plan(4L, -1, -1));
        due.refuses("no seats of course 4 on -1 days", RANGE, () -> x.plan(4L, 0, -1));
    }
}
