/** Each promise of the document: ordinary inputs, the edges that it names, and wrong inputs. */
public final class PromiseTests {
    private static final Class<IllegalArgumentException> UNKNOWN = Due.UNKNOWN;
    private static final Class<IndexOutOfBoundsException> RANGE = Due.RANGE;
    private static final Class<IllegalStateException> STATE = Due.STATE;
    private static final Class<UnsupportedOperationException> NO_ROOM = Due.NO_ROOM;

    private final Due due = new Due();

    public static void main(String[] args) {
        PromiseTests tests = new PromiseTests();
        tests.newObject();
        tests.course();
        tests.need();
        tests.pause();
        tests.day();
        tests.ratio();
        tests.result();
        tests.resultsAreFull();
        tests.found();
        tests.teach();
        tests.use();
        tests.useOnADayOfTwoPasses();
        tests.holds();
        tests.lapse();
        tests.failed();
        tests.barred();
        tests.room();
        tests.planRefusals();
        tests.planSeats();
        tests.planIsTheFirst();
        tests.seated();
        tests.tomorrow();
        tests.count();
        tests.beyondTheCalls();
        tests.due.end();
    }

    private void newObject() {
        TrainingRows x = new TrainingRows();
        for (int what = 0; what < 4; what++) {
            int which = what;
            due.is("1: count " + what, 0, () -> x.count(which));
        }
        due.refuses("1: room of no course", UNKNOWN, () -> x.room(0));
        due.refuses("1: no plan, no seat", UNKNOWN, () -> x.seated(0));
        due.is("1: the first course", 0, () -> x.course(1, 0, 0));
        due.isDone("1: the day is 0", () -> x.day(0));
    }

    private void course() {
        TrainingRows x = new TrainingRows();
        due.is("2: least", 0, () -> x.course(1, 0, 0));
        due.is("2: most", 1, () -> x.course(2000, 100, 50));
        due.refuses("2: term 0", RANGE, () -> x.course(0, 0, 0));
        due.refuses("2: term 2001", RANGE, () -> x.course(2001, 0, 0));
        due.refuses("2: term of the least int", RANGE, () -> x.course(Integer.MIN_VALUE, 0, 0));
        due.refuses("2: pass -1", RANGE, () -> x.course(1, -1, 0));
        due.refuses("2: pass 101", RANGE, () -> x.course(1, 101, 0));
        due.refuses("2: cap -1", RANGE, () -> x.course(1, 0, -1));
        due.refuses("2: cap 51", RANGE, () -> x.course(1, 0, 51));
        due.is("2: what is refused is no course", 2, () -> x.count(0));
        for (int i = 2; i < 16; i++) {
            due.is("2: course " + i, i, () -> x.course(5, 5, 5));
        }
        due.refuses("2: a 17th", NO_ROOM, () -> x.course(5, 5, 5));
        due.refuses("2: range before room", RANGE, () -> x.course(0, 5, 5));
        due.is("2: still 16", 16, () -> x.count(0));
        due.is("2: the ratio is 3 at first", 2, () -> {
            x.found(3, 15);
            x.teach(3, 15, true);
            return x.room(15);
        });
    }

    private void need() {
        TrainingRows x = new TrainingRows();
        for (int i = 0; i < 5; i++) {
            x.course(10, 0, 0);
        }
        due.refusesStep("3: unknown course", UNKNOWN, () -> x.need(5, 0));
        due.refusesStep("3: unknown other", UNKNOWN, () -> x.need(0, 5));
        due.refusesStep("3: course -1", UNKNOWN, () -> x.need(-1, 0));
        due.refusesStep("3: other -1", UNKNOWN, () -> x.need(0, -1));
        due.refusesStep("3: both unknown and alike", UNKNOWN, () -> x.need(5, 5));
        due.refusesStep("3: itself", STATE, () -> x.need(2, 2));
        due.isDone("3: 1 needs 0", () -> x.need(1, 0));
        due.refusesStep("3: told already", STATE, () -> x.need(1, 0));
        due.refusesStep("3: a circle of two", STATE, () -> x.need(0, 1));
        due.isDone("3: 3 needs 2", () -> x.need(3, 2));
        due.isDone("3: 2 needs 1, below what 3 needs", () -> x.need(2, 1));
        due.refusesStep("3: a circle of four", STATE, () -> x.need(0, 3));
        due.isDone("3: needed by way of others, told now", () -> x.need(3, 0));
        due.isDone("3: 0 needs 4", () -> x.need(0, 4));
        due.refusesStep("3: a circle of five", STATE, () -> x.need(4, 3));
        due.is("3: what is refused is no need", 0, () -> x.barred(9, 4));
        due.is("3: it is barred by its need", 1, () -> x.barred(9, 0));
        TrainingRows both = Setups.withHolders(0b01, 0b11, 0b10);
        both.need(2, 0);
        both.need(2, 1);
        due.is("3: a second need leaves the first", 1, () -> both.barred(1, 2));
        both.need(1, 0);
        due.refusesStep("3: and what it leads to", STATE, () -> both.need(0, 2));
    }

    private void pause() {
        TrainingRows x = Setups.withInstructor(0);
        for (int i = 0; i < 3; i++) {
            x.result(1, 0, 0);
        }
        due.is("4: three fails bar", 3, () -> x.barred(1, 0));
        due.refusesStep("4: below", RANGE, () -> x.pause(-1));
        due.refusesStep("4: above", RANGE, () -> x.pause(1001));
        due.is("4: refused changes nothing", 3, () -> x.barred(1, 0));
        due.isDone("4: least", () -> x.pause(0));
        due.is("4: no pause", 0, () -> x.barred(1, 0));
        due.isDone("4: most", () -> x.pause(1000));
        x.day(29);
        due.is("4: before 1000", 3, () -> x.barred(1, 0));
        x.pause(30);
        due.is("4: day 29 of 30", 3, () -> x.barred(1, 0));
        x.day(30);
        due.is("4: day 30 of 30", 0, () -> x.barred(1, 0));
        x.pause(1000);
        x.day(999);
        due.is("4: day 999 of 1000", 3, () -> x.barred(1, 0));
        x.day(1000);
        due.is("4: day 1000 of 1000", 0, () -> x.barred(1, 0));
        TrainingRows first = Setups.withInstructor(0);
        for (int i = 0; i < 3; i++) {
            first.result(1, 0, 0);
        }
        first.day(29);
        due.is("4: 30 at first, on day 29", 3, () -> first.barred(1, 0));
        first.day(30);
        due.is("4: 30 at first, on day 30", 0, () -> first.barred(1, 0));
    }

    private void day() {
        TrainingRows x = new TrainingRows();
        x.course(2, 0, 0);
        due.refusesStep("5: below 0", RANGE, () -> x.day(-1));
        due.isDone("5: the same", () -> x.day(0));
        due.isDone("5: later", () -> x.day(7));
        due.refusesStep("5: below the present one", RANGE, () -> x.day(6));
        due.refusesStep("5: above", RANGE, () -> x.day(10000));
        x.found(1, 0);
        due.is("5: refused changes nothing", 9, () -> x.lapse(1, 0));
        x.day(9998);
        due.isDone("5: the last", () -> x.day(9999));
        due.isDone("5: the last again", () -> x.day(9999));
        due.refusesStep("5: none behind the last", RANGE, () -> x.day(10000));
    }

    private void ratio() {
        TrainingRows x = new TrainingRows();
        x.course(10, 0, 0);
        x.course(10, 0, 0);
        x.found(0, 0);
        x.teach(0, 0, true);
        due.is("6: 3 at first", 2, () -> x.room(0));
        due.refusesStep("6: unknown", UNKNOWN, () -> x.ratio(2, 1));
        due.refusesStep("6: course -1", UNKNOWN, () -> x.ratio(-1, 1));
        due.refusesStep("6: unknown before range", UNKNOWN, () -> x.ratio(2, 11));
        due.refusesStep("6: below", RANGE, () -> x.ratio(0, -1));
        due.refusesStep("6: above", RANGE, () -> x.ratio(0, 11));
        due.is("6: refused changes nothing", 2, () -> x.room(0));
        due.isDone("6: most", () -> x.ratio(0, 10));
        due.is("6: room by 10", 9, () -> x.room(0));
        due.isDone("6: of another course", () -> x.ratio(1, 1));
        due.is("6: each its own", 9, () -> x.room(0));
        due.isDone("6: least", () -> x.ratio(0, 0));
        due.is("6: no room by 0", 0, () -> x.room(0));
    }

    private void result() {
        TrainingRows x = Setups.withInstructor(0);
        x.course(10, 0, 0);
        x.need(1, 0);
        due.refuses("7: unknown person", UNKNOWN, () -> x.result(20, 0, 50));
        due.refuses("7: person -1", UNKNOWN, () -> x.result(-1, 0, 50));
        due.refuses("7: unknown course", UNKNOWN, () -> x.result(1, 2, 50));
        due.refuses("7: unknown before range", UNKNOWN, () -> x.result(1, 2, 101));
        due.refuses("7: mark -1", RANGE, () -> x.result(1, 0, -1));
        due.refuses("7: mark 101", RANGE, () -> x.result(1, 0, 101));
        due.refuses("7: range before state", RANGE, () -> x.result(0, 0, 101));
        due.refuses("7: an instructor is barred", STATE, () -> x.result(0, 0, 100));
        due.refuses("7: state before room", STATE, () -> x.result(5, 1, 100));
        due.refuses("7: no room without an instructor", NO_ROOM, () -> x.result(0, 1, 100));
        due.is("7: just below the pass mark", 1, () -> x.result(1, 0, 49));
        due.is("7: it failed", 1, () -> x.failed(1, 0));
        due.is("7: and is no pass", -1, () -> x.lapse(1, 0));
        due.is("7: at the pass mark", 2, () -> x.result(1, 0, 50));
        due.is("7: it passed", 10, () -> x.lapse(1, 0));
        due.is("7: mark 0", 3, () -> x.result(19, 0, 0));
        due.is("7: mark 100", 4, () -> x.result(19, 0, 100));
        due.is("7: refused ones are none", 5, () -> x.count(1));
        x.ratio(0, 5);
        due.refuses("7: the room is full", NO_ROOM, () -> x.result(2, 0, 100));
        due.is("7: still 5", 5, () -> x.count(1));
        due.is("7: a failed try changes no pass", 10, () -> {
            x.ratio(0, 10);
            x.result(1, 0, 0);
            return x.lapse(1, 0);
        });
    }

    private void resultsAreFull() {
        TrainingRows x = new TrainingRows();
        x.pause(0);
        x.course(2000, 0, 0);
        x.course(2000, 0, 0);
        x.ratio(0, 10);
        x.found(0, 0);
        x.teach(0, 0, true);
        for (int i = 1; i < 300; i++) {
            int number = i;
            if (i % 10 == 0) {
                x.day(i / 10);
            }
            due.is("7: result " + i, number, () -> x.result(1, 0, 0));
        }
        x.day(30);
        due.is("7: room for the 301st but for the rows", 10, () -> x.room(0));
        due.refuses("7: a 301st", NO_ROOM, () -> x.result(1, 0, 0));
        due.refuses("7: barred before rows", STATE, () -> x.result(0, 0, 0));
        due.refuses("8: no rows", NO_ROOM, () -> x.found(1, 1));
        due.refuses("8: state before rows", STATE, () -> x.found(1, 0));
        due.is("8: still 300", 300, () -> x.count(1));
        due.is("8: 300 passes", 300, () -> x.count(2));
        due.is("7: refused ones take no room", 10, () -> x.room(0));
    }

    private void found() {
        TrainingRows x = new TrainingRows();
        x.course(10, 100, 0);
        x.course(10, 100, 0);
        x.need(1, 0);
        x.day(4);
        due.refuses("8: unknown person", UNKNOWN, () -> x.found(20, 0));
        due.refuses("8: person -1", UNKNOWN, () -> x.found(-1, 0));
        due.refuses("8: unknown course", UNKNOWN, () -> x.found(0, 2));
        due.refuses("8: course -1", UNKNOWN, () -> x.found(0, -1));
        due.is("8: whatever it needs", 0, () -> x.found(7, 1));
        due.is("8: on the present day", 14, () -> x.lapse(7, 1));
        due.refuses("8: the same person again", STATE, () -> x.found(7, 1));
        due.refuses("8: another person", STATE, () -> x.found(8, 1));
        due.is("8: another course", 1, () -> x.found(8, 0));
        x.day(100);
        due.refuses("8: also when it has lapsed", STATE, () -> x.found(8, 0));
        due.is("8: refused ones are none", 2, () -> x.count(1));
        due.is("8: they are passes", 2, () -> x.count(2));
    }

    private void teach() {
        TrainingRows x = Setups.withInstructor(0);
        x.result(1, 0, 50);
        x.result(2, 0, 0);
        due.refusesStep("9: unknown person", UNKNOWN, () -> x.teach(20, 0, true));
        due.refusesStep("9: person -1", UNKNOWN, () -> x.teach(-1, 0, false));
        due.refusesStep("9: unknown course", UNKNOWN, () -> x.teach(0, 1, true));
        due.refusesStep("9: told already", STATE, () -> x.teach(0, 0, true));
        due.refusesStep("9: not told", STATE, () -> x.teach(1, 0, false));
        due.refusesStep("9: without a pass", STATE, () -> x.teach(2, 0, true));
        due.isDone("9: told", () -> x.teach(1, 0, true));
        due.is("9: both count", 2, () -> x.count(3));
        due.isDone("9: not any more", () -> x.teach(0, 0, false));
        due.is("9: one counts", 1, () -> x.count(3));
        x.day(9);
        due.isDone("9: on the last day that it is held", () -> x.teach(0, 0, true));
        x.teach(0, 0, false);
        x.day(10);
        due.refusesStep("9: lapsed", STATE, () -> x.teach(0, 0, true));
        due.is("9: told, lapsed and barred", 2, () -> x.barred(1, 0));
        due.isDone("9: not any more, lapsed", () -> x.teach(1, 0, false));
        due.is("9: barred no more", 0, () -> x.barred(1, 0));
    }

    private void use() {
        TrainingRows x = Setups.withInstructor(2);
        due.refuses("10: unknown person", UNKNOWN, () -> x.use(20, 0));
        due.refuses("10: person -1", UNKNOWN, () -> x.use(-1, 0));
        due.refuses("10: unknown course", UNKNOWN, () -> x.use(0, 1));
        due.refuses("10: without a pass", STATE, () -> x.use(1, 0));
        due.is("10: on the day of the pass", 1, () -> x.use(0, 0));
        due.is("10: a day counts once", 1, () -> x.use(0, 0));
        x.day(10);
        due.is("10: held because put off", 2, () -> x.use(0, 0));
        x.day(11);
        due.is("10: no more than the cap", 2, () -> x.use(0, 0));
        due.is("10: lapse with the cap", 12, () -> x.lapse(0, 0));
        x.day(12);
        due.refuses("10: lapsed", STATE, () -> x.use(0, 0));

        TrainingRows none = Setups.withInstructor(0);
        due.is("10: a cap of 0", 0, () -> none.use(0, 0));
        due.is("10: does not put off", 10, () -> none.lapse(0, 0));

        TrainingRows most = Setups.withInstructor(50);
        for (int day = 0; day < 55; day++) {
            int want = Math.min(day + 1, 50);
            most.day(day);
            due.is("10: use on day " + day, want, () -> most.use(0, 0));
        }
        due.is("10: lapse with a cap of 50", 60, () -> most.lapse(0, 0));
    }

    private void useOnADayOfTwoPasses() {
        TrainingRows x = Setups.withInstructor(1);
        x.result(1, 0, 50);
        x.use(1, 0);
        x.result(1, 0, 50);
        due.is("10: the day counted for the pass before", 0, () -> x.use(1, 0));
        due.is("10: the latest pass is not put off", 10, () -> x.lapse(1, 0));
        due.is("10: another person's day", 1, () -> x.use(0, 0));
        x.day(1);
        due.is("10: the next day counts", 1, () -> x.use(1, 0));
        x.day(2);
        due.is("10: counts, but the cap is reached", 1, () -> x.use(1, 0));
        x.result(1, 0, 50);
        due.is("10: the day has counted without putting off", 0, () -> x.use(1, 0));
        due.is("10: the lapse of the third pass", 12, () -> x.lapse(1, 0));
    }

    private void holds() {
        TrainingRows x = Setups.withInstructor(5);
        due.refuses("11: unknown person", UNKNOWN, () -> x.holds(20, 0, 0));
        due.refuses("11: unknown course", UNKNOWN, () -> x.holds(0, 1, 0));
        due.refuses("11: unknown before range", UNKNOWN, () -> x.holds(0, 1, -1));
        due.refuses("11: day -1", RANGE, () -> x.holds(0, 0, -1));
        due.refuses("11: day 10000", RANGE, () -> x.holds(0, 0, 10000));
        due.is("11: the last day", false, () -> x.holds(0, 0, 9999));
        due.is("11: without a pass", false, () -> x.holds(1, 0, 5));
        x.day(3);
        x.result(1, 0, 50);
        due.is("11: before the pass", false, () -> x.holds(1, 0, 2));
        due.is("11: on its day", true, () -> x.holds(1, 0, 3));
        due.is("11: on the last day, to come", true, () -> x.holds(1, 0, 12));
        due.is("11: on the lapse, to come", false, () -> x.holds(1, 0, 13));
        x.day(12);
        x.use(1, 0);
        x.day(13);
        x.use(1, 0);
        due.is("11: put off to day 14", true, () -> x.holds(1, 0, 14));
        due.is("11: not to day 15", false, () -> x.holds(1, 0, 15));
        due.is("11: day 13 by the use of day 12", true, () -> x.holds(1, 0, 13));
        x.day(40);
        due.is("11: days gone by keep their answers", true, () -> x.holds(1, 0, 14));
        due.is("11: a gap between passes", false, () -> x.holds(1, 0, 39));
        holdsByTheLatestPassOfThatDay();
    }

    private void holdsByTheLatestPassOfThatDay() {
        TrainingRows x = new TrainingRows();
        x.course(3, 50, 2);
        x.found(0, 0);
        x.teach(0, 0, true);
        x.result(1, 0, 50);
        x.use(1, 0);
        x.use(0, 0);
        x.day(1);
        x.use(0, 0);
        x.use(1, 0);
        x.result(1, 0, 50);
        due.is("11: the later pass lapses on day 4", 4, () -> x.lapse(1, 0));
        due.is("11: day 3 by the later pass", true, () -> x.holds(1, 0, 3));
        due.is("11: day 4: what put off the first pass is gone", false, () -> x.holds(1, 0, 4));
        due.is("11: day 0 by the first pass", true, () -> x.holds(1, 0, 0));
        due.is("11: person 0 keeps both days", true, () -> x.holds(0, 0, 4));
    }

    private void lapse() {
        TrainingRows x = new TrainingRows();
        x.course(2000, 0, 50);
        due.refuses("12: unknown person", UNKNOWN, () -> x.lapse(20, 0));
        due.refuses("12: person -1", UNKNOWN, () -> x.lapse(-1, 0));
        due.refuses("12: unknown course", UNKNOWN, () -> x.lapse(0, 1));
        due.is("12: without a pass", -1, () -> x.lapse(0, 0));
        x.day(9999);
        x.found(19, 0);
        due.is("12: behind the last day", 11999, () -> x.lapse(19, 0));
        x.use(19, 0);
        due.is("12: put off", 12000, () -> x.lapse(19, 0));
        TrainingRows y = Setups.withInstructor(0);
        y.day(500);
        due.is("12: gone by", 10, () -> y.lapse(0, 0));
    }

    private void failed() {
        TrainingRows x = Setups.withInstructor(0);
        x.pause(0);
        due.refuses("13: unknown person", UNKNOWN, () -> x.failed(20, 0));
        due.refuses("13: unknown course", UNKNOWN, () -> x.failed(0, 1));
        due.is("13: without a try", 0, () -> x.failed(1, 0));
        due.is("13: the first pass", 0, () -> x.failed(0, 0));
        for (int i = 1; i <= 4; i++) {
            int fails = i;
            x.result(1, 0, 0);
            due.is("13: fails " + i, fails, () -> x.failed(1, 0));
        }
        x.result(2, 0, 100);
        due.is("13: another's pass", 4, () -> x.failed(1, 0));
        x.result(1, 0, 100);
        due.is("13: since the pass", 0, () -> x.failed(1, 0));
        x.result(1, 0, 0);
        due.is("13: one since the pass", 1, () -> x.failed(1, 0));
    }

    private void barred() {
        TrainingRows x = Setups.withInstructor(0);
        x.course(100, 50, 0);
        x.course(100, 50, 0);
        x.need(1, 0);
        x.need(2, 1);
        x.ratio(1, 10);
        due.refuses("14: unknown person", UNKNOWN, () -> x.barred(20, 0));
        due.refuses("14: unknown course", UNKNOWN, () -> x.barred(0, 3));
        due.is("14: not", 0, () -> x.barred(1, 0));
        due.is("14: does not hold a need", 1, () -> x.barred(1, 1));
        x.found(0, 1);
        x.teach(0, 1, true);
        due.is("14: told as instructor", 2, () -> x.barred(0, 1));
        x.result(1, 0, 50);
        for (int i = 0; i < 3; i++) {
            due.is("14: fails " + i, 0, () -> x.barred(1, 1));
            x.result(1, 1, 0);
        }
        due.is("14: three fails", 3, () -> x.barred(1, 1));
        due.refuses("14: no fourth try", STATE, () -> x.result(1, 1, 100));
        x.day(10);
        due.is("14: need before instructor", 1, () -> x.barred(0, 1));
        due.is("14: need before fails", 1, () -> x.barred(1, 1));
        due.is("14: a need that is held, whose own need is not", 0, () -> x.barred(0, 2));
        due.is("14: instructor of a lapsed course", 2, () -> x.barred(0, 0));
        fourFailsBarFromTheLatest();
    }

    private void fourFailsBarFromTheLatest() {
        TrainingRows x = new TrainingRows();
        x.course(100, 50, 0);
        x.found(0, 0);
        x.teach(0, 0, true);
        x.ratio(0, 10);
        x.pause(5);
        for (int i = 0; i < 3; i++) {
            x.result(1, 0, 0);
        }
        x.day(5);
        due.is("14: the pause has gone by", 0, () -> x.barred(1, 0));
        x.result(1, 0, 0);
        due.is("14: the fourth bars again", 3, () -> x.barred(1, 0));
        x.day(9);
        due.is("14: from the latest try", 3, () -> x.barred(1, 0));
        x.day(10);
        x.result(1, 0, 50);
        x.result(1, 0, 0);
        x.result(1, 0, 0);
        due.is("14: two fails since a pass", 0, () -> x.barred(1, 0));
        x.result(1, 0, 0);
        due.is("14: three fails since a pass", 3, () -> x.barred(1, 0));
    }

    private void room() {
        TrainingRows x = new TrainingRows();
        x.course(10, 50, 0);
        x.course(10, 50, 0);
        due.refuses("15: unknown", UNKNOWN, () -> x.room(2));
        due.refuses("15: course -1", UNKNOWN, () -> x.room(-1));
        due.is("15: without an instructor", 0, () -> x.room(0));
        x.found(0, 0);
        due.is("15: less than none is 0", 0, () -> x.room(0));
        x.teach(0, 0, true);
        due.is("15: the first pass is among the results", 2, () -> x.room(0));
        x.result(1, 0, 50);
        x.teach(1, 0, true);
        due.is("15: two instructors", 4, () -> x.room(0));
        x.result(2, 0, 0);
        due.is("15: a failed try takes room", 3, () -> x.room(0));
        x.found(2, 1);
        due.is("15: another course's result takes none", 3, () -> x.room(0));
        x.ratio(0, 1);
        due.is("15: less than none is 0 again", 0, () -> x.room(0));
        x.day(0);
        due.is("15: the same day", 0, () -> x.room(0));
        x.day(1);
        due.is("15: a new day", 2, () -> x.room(0));
        x.day(10);
        due.is("15: lapsed instructors do not count", 0, () -> x.room(0));
    }

    private void planRefusals() {
        TrainingRows x = Setups.withInstructor(0);
        due.is("16: a plan", 1, () -> x.plan(0L, 1, 10));
        due.refuses("16: unknown course", UNKNOWN, () -> x.plan(1L, 1, 10));
        due.refuses("16: unknown on seat 11", UNKNOWN, () -> x.plan(1L << 44, 12, 10));
        due.refuses("16: on 12 of 13 seats, before range", UNKNOWN, () -> x.plan(1L << 44, 13, 10));
        due.refuses("16: a 13th seat's course is not looked at", RANGE, () -> x.plan(1L << 48, 13, 10));
        due.refuses("16: unknown before the days", UNKNOWN, () -> x.plan(1L, 1, 2101));
        due.refuses("16: -1 seats", RANGE, () -> x.plan(0xFFFFL, -1, 10));
        due.refuses("16: the least int of seats", RANGE, () -> x.plan(-1L, Integer.MIN_VALUE, 10));
        due.refuses("16: the most int of seats", RANGE, () -> x.plan(0L, Integer.MAX_VALUE, 10));
        due.refuses("16: -1 days", RANGE, () -> x.plan(0L, 2, -1));
        due.refuses("16: 2101 days", RANGE, () -> x.plan(0L, 2, 2101));
        due.is("16: the plan before stands", 0, () -> x.seated(0));
        due.refuses("16: with its one seat", UNKNOWN, () -> x.seated(1));
        due.is("16: bits behind the seats are free", 1, () -> x.plan(~15L, 1, 10));
        due.is("16: no seats", 0, () -> x.plan(-1L, 0, 2100));
        due.refuses("16: none has a person", UNKNOWN, () -> x.seated(0));
    }

    private void planSeats() {
        TrainingRows x = Setups.withInstructor(0);
        due.is("16: within 9 days", 0, () -> x.plan(0L, 1, 9));
        due.is("16: none on the seat", -1, () -> x.seated(0));
        due.is("16: within 10 days", 1, () -> x.plan(0L, 1, 10));
        due.is("16: the instructor too", 0, () -> x.seated(0));
        x.day(9);
        due.is("16: within 0 days", 0, () -> x.plan(0L, 1, 0));
        due.is("16: within 1 day", 1, () -> x.plan(0L, 1, 1));
        x.day(10);
        due.is("16: the latest plan stays on other days", 0, () -> x.seated(0));
        due.is("16: who has lapsed has no seat", 0, () -> x.plan(0L, 1, 2100));

        TrainingRows all = new TrainingRows();
        all.course(2000, 0, 50);
        all.found(19, 0);
        all.teach(19, 0, true);
        all.ratio(0, 10);
        for (int i = 1; i < 10; i++) {
            all.result(19 - i, 0, 0);
        }
        all.day(1);
        for (int i = 10; i < 15; i++) {
            all.result(19 - i, 0, 0);
        }
        due.is("16: 12 seats of one course", 12, () -> all.plan(0L, 12, 2100));
        for (int seat = 0; seat < 12; seat++) {
            int place = seat;
            due.is("16: the lowest persons first, seat " + seat, seat + 5, () -> all.seated(place));
        }
        due.is("16: who passed on day 0", 10, () -> all.plan(0L, 12, 1999));
        due.is("16: the lowest of them", 10, () -> all.seated(0));
        due.is("16: the highest of them", 19, () -> all.seated(9));
        due.is("16: a seat left", -1, () -> all.seated(10));
    }

    private void planIsTheFirst() {
        TrainingRows two = Setups.withHolders(0b011, 0b001);
        due.is("16: seat 0 gives way", 2, () -> two.plan(0x10L, 2, 10));
        due.seats("16: seat 0 gives way", two, 1, 0);

        TrainingRows other = Setups.withHolders(0b011, 0b001, 0b010);
        due.is("16: another seat stays empty", 2, () -> other.plan(0x210L, 3, 10));
        due.seats("16: seat 0 has the lowest, seat 1 none", other, 0, -1, 1);

        TrainingRows chain = Setups.withHolders(0b0011, 0b0110, 0b1100, 0b0001);
        due.is("16: a chain of moves", 4, () -> chain.plan(0x3210L, 4, 10));
        due.seats("16: a chain of moves", chain, 1, 2, 3, 0);
        due.is("16: the chain without its end", 3, () -> chain.plan(0x210L, 3, 10));
        due.seats("16: the chain without its end", chain, 0, 1, 2);

        TrainingRows takes = Setups.withHolders(0b011, 0b101, 0b100, 0b010);
        due.is("16: an emptied seat takes a later one's person", 3, () -> takes.plan(0x3210L, 4, 10));
        due.seats("16: an emptied seat takes a later one's person", takes, 0, 2, -1, 1);

        TrainingRows freed = Setups.withHolders(0b001001, 0b010010, 0b101100, 0b000011, 0b000100);
        due.is("16: a seat takes a person who came free", 5, () -> freed.plan(0x43210L, 5, 10));
        due.seats("16: a seat takes a person who came free", freed, 0, 4, 3, 1, 2);

        TrainingRows same = Setups.withHolders(0b001);
        due.is("16: a person on one seat at most", 1, () -> same.plan(0L, 3, 10));
        due.seats("16: on the first", same, 0, -1, -1);

        TrainingRows late = Setups.withHolders(0b110, 0b001);
        due.is("16: courses out of order", 3, () -> late.plan(0x001L, 3, 10));
        due.seats("16: courses out of order", late, 0, 1, 2);
    }

    private void seated() {
        TrainingRows x = Setups.withInstructor(0);
        due.refuses("17: no plan", UNKNOWN, () -> x.seated(0));
        x.plan(0L, 2, 10);
        due.is("17: a person", 0, () -> x.seated(0));
        due.is("17: none", -1, () -> x.seated(1));
        due.refuses("17: seat 2 of 2", UNKNOWN, () -> x.seated(2));
        due.refuses("17: seat -1", UNKNOWN, () -> x.seated(-1));
        x.plan(0L, 12, 10);
        due.is("17: the last seat", -1, () -> x.seated(11));
        due.refuses("17: seat 12", UNKNOWN, () -> x.seated(12));
        x.plan(0L, 1, 0);
        due.is("17: the latest plan", -1, () -> x.seated(0));
        due.refuses("17: has fewer seats", UNKNOWN, () -> x.seated(1));
    }

    private void tomorrow() {
        TrainingRows x = Setups.withInstructor(5);
        x.result(9, 0, 50);
        x.result(4, 0, 50);
        x.result(5, 0, 0);
        due.refuses("18: unknown", UNKNOWN, () -> x.tomorrow(1, 0));
        due.refuses("18: unknown before range", UNKNOWN, () -> x.tomorrow(1, -1));
        due.refuses("18: below 0", RANGE, () -> x.tomorrow(0, -1));
        due.is("18: not yet", -1, () -> x.tomorrow(0, 0));
        x.day(9);
        due.is("18: the first by number", 0, () -> x.tomorrow(0, 0));
        due.is("18: the second", 4, () -> x.tomorrow(0, 1));
        due.is("18: the third", 9, () -> x.tomorrow(0, 2));
        due.is("18: not so many", -1, () -> x.tomorrow(0, 3));
        due.is("18: far too many", -1, () -> x.tomorrow(0, Integer.MAX_VALUE));
        x.use(4, 0);
        due.is("18: put off", 9, () -> x.tomorrow(0, 1));
        x.day(10);
        due.is("18: the one put off", 4, () -> x.tomorrow(0, 0));
        due.is("18: the others have lapsed", -1, () -> x.tomorrow(0, 1));
        TrainingRows last = new TrainingRows();
        last.course(1, 0, 0);
        last.day(9999);
        last.found(2, 0);
        due.is("18: on the last day", 2, () -> last.tomorrow(0, 0));
    }

    private void count() {
        TrainingRows x = Setups.withInstructor(0);
        x.course(100, 50, 0);
        x.found(0, 1);
        x.teach(0, 1, true);
        x.result(1, 0, 50);
        x.result(2, 0, 0);
        x.teach(1, 0, true);
        due.is("19: courses", 2, () -> x.count(0));
        due.is("19: results", 4, () -> x.count(1));
        due.is("19: passes", 3, () -> x.count(2));
        due.is("19: instructors", 3, () -> x.count(3));
        due.refuses("19: 4", UNKNOWN, () -> x.count(4));
        due.refuses("19: -1", UNKNOWN, () -> x.count(-1));
        x.day(10);
        due.is("19: who have lapsed do not count", 1, () -> x.count(3));
        due.is("19: passes stay", 3, () -> x.count(2));
        x.day(100);
        due.is("19: none counts", 0, () -> x.count(3));
    }

    /** What these calls answer is free, but the machine itself must not throw. */
    private void beyondTheCalls() {
        TrainingRows x = new TrainingRows();
        x.course(2000, 0, 50);
        x.ratio(0, 10);
        x.found(0, 0);
        x.teach(0, 0, true);
        for (int person = 1; person < 20; person++) {
            x.day(person / 5);
            x.result(person, 0, 0);
        }
        for (int day = 5; day < 100; day++) {
            int next = day;
            tellsNoMachineFault(Due.answerOf(() -> x.day(next)));
            for (int person = 0; person < 20; person++) {
                int user = person;
                tellsNoMachineFault(Due.answerOf(() -> x.use(user, 0)));
            }
        }
    }

    private void tellsNoMachineFault(String answer) {
        boolean isFree = answer.matches("-?[0-9]+|done|" + UNKNOWN.getSimpleName() + "|"
                + RANGE.getSimpleName() + "|" + STATE.getSimpleName() + "|"
                + NO_ROOM.getSimpleName());
        due.same("beyond 512 calls: " + answer, "true", String.valueOf(isFree));
    }
}
