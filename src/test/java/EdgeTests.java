/** The boundary cases that the headings "Promise 1" to "Promise 19" name, each by itself. */
public final class EdgeTests {
    private static final Class<IllegalArgumentException> UNKNOWN = Due.UNKNOWN;
    private static final Class<IndexOutOfBoundsException> RANGE = Due.RANGE;
    private static final Class<IllegalStateException> STATE = Due.STATE;
    private static final Class<UnsupportedOperationException> NO_ROOM = Due.NO_ROOM;

    private final Due due = new Due();

    public static void main(String[] args) {
        EdgeTests tests = new EdgeTests();
        tests.due.runTestsOf(tests);
        tests.due.end();
    }

    @Says("1: No courses.")
    void p01NothingIsThereAtFirst() {
        TrainingRows x = new TrainingRows();
        for (int what = 0; what < 4; what++) {
            int which = what;
            due.is("count " + what, 0, () -> x.count(which));
        }
        due.refuses("room of course 0", UNKNOWN, () -> x.room(0));
        due.refuses("a try of course 0", UNKNOWN, () -> x.result(0, 0, 0));
        due.refuses("a seat of course 0", UNKNOWN, () -> x.plan(0L, 1, 0));
        due.refuses("seat 0 of no plan", UNKNOWN, () -> x.seated(0));
        due.is("a plan without seats", 0, () -> x.plan(0L, 0, 0));
        due.is("the first course", 0, () -> x.course(1, 0, 0));
    }

    @Says("1: No courses.")
    void p01ASecondObjectIsNewToo() {
        TrainingRows first = Setups.withInstructor(1);
        first.day(9);
        first.plan(0L, 1, 1);
        TrainingRows x = new TrainingRows();
        due.is("no courses", 0, () -> x.count(0));
        due.is("no results", 0, () -> x.count(1));
        due.refuses("no seats", UNKNOWN, () -> x.seated(0));
        due.isDone("day 0", () -> x.day(0));
        x.course(5, 0, 0);
        due.is("no pass", -1, () -> x.lapse(0, 0));
        due.is("no instructor", 0, () -> x.barred(0, 0));
        due.is("the first object keeps its own", 10, () -> first.lapse(0, 0));
    }

    @Says("2: One more course: its number.")
    void p02TheNextNumberBehindRefusedOnes() {
        TrainingRows x = new TrainingRows();
        due.is("the first", 0, () -> x.course(1, 100, 50));
        due.refuses("term 0", RANGE, () -> x.course(0, 100, 50));
        due.refuses("pass mark 101", RANGE, () -> x.course(1, 101, 50));
        due.refuses("cap 51", RANGE, () -> x.course(1, 100, 51));
        due.is("the second", 1, () -> x.course(2000, 0, 0));
        due.is("one like another", 2, () -> x.course(2000, 0, 0));
        due.is("three of them", 3, () -> x.count(0));
    }

    @Says("3: it would need itself")
    void p03OnlyAWayBackIsACircle() {
        TrainingRows x = Setups.withCourses(4);
        due.refusesStep("itself", STATE, () -> x.need(0, 0));
        due.isDone("1 needs 0", () -> x.need(1, 0));
        due.refusesStep("a circle of two", STATE, () -> x.need(0, 1));
        due.isDone("2 needs 1", () -> x.need(2, 1));
        due.refusesStep("a circle of three", STATE, () -> x.need(0, 2));
        due.isDone("3 needs 0 as well", () -> x.need(3, 0));
        due.isDone("3 needs 2", () -> x.need(3, 2));
        due.refusesStep("a circle of four", STATE, () -> x.need(0, 3));
        due.refusesStep("a circle of two above", STATE, () -> x.need(2, 3));
    }

    @Says("3: or needs that one (told) already")
    void p03ToldTwiceOrByWayOfOthers() {
        TrainingRows x = Setups.withCourses(16);
        for (int i = 14; i >= 0; i--) {
            int other = i;
            due.isDone("15 needs " + i, () -> x.need(15, other));
            due.refusesStep("15 needs " + i + " already", STATE, () -> x.need(15, other));
        }
        x.need(2, 1);
        x.need(1, 0);
        due.isDone("needed by way of another, not told", () -> x.need(2, 0));
        due.refusesStep("told now", STATE, () -> x.need(2, 0));
    }

    @Says("4: The pause. Range: it is not so.")
    void p04EachNumberAroundTheRange() {
        TrainingRows x = new TrainingRows();
        due.isDone("0", () -> x.pause(0));
        due.isDone("0 again", () -> x.pause(0));
        due.isDone("1", () -> x.pause(1));
        due.isDone("999", () -> x.pause(999));
        due.isDone("1,000", () -> x.pause(1000));
        due.refusesStep("1,001", RANGE, () -> x.pause(1001));
        due.refusesStep("-1", RANGE, () -> x.pause(-1));
    }

    @Says("5: The day is this one.")
    void p05FromTheFirstToTheLastDay() {
        TrainingRows x = Setups.withCourses(1);
        due.isDone("the last one", () -> x.day(9999));
        x.found(0, 0);
        due.is("the day is it", 10009, () -> x.lapse(0, 0));
    }

    @Says("5: Range: below the present one, or above 9,999.")
    void p05BelowAtAndAboveThePresentOne() {
        TrainingRows x = new TrainingRows();
        x.day(9998);
        due.refusesStep("below", RANGE, () -> x.day(9997));
        due.isDone("the present one", () -> x.day(9998));
        due.refusesStep("10,000", RANGE, () -> x.day(10000));
        due.isDone("9,999", () -> x.day(9999));
        due.refusesStep("below the last", RANGE, () -> x.day(9998));
        due.isDone("the last again", () -> x.day(9999));
        due.refusesStep("behind the last", RANGE, () -> x.day(10000));
    }

    @Says("6: A course's ratio.")
    void p06CountsAtOnceAndCanBeTheSame() {
        TrainingRows x = Setups.withInstructor(0);
        due.isDone("the same again", () -> x.ratio(0, 10));
        due.is("10 less 1", 9, () -> x.room(0));
        due.isDone("1", () -> x.ratio(0, 1));
        due.is("1 less 1", 0, () -> x.room(0));
        due.isDone("9", () -> x.ratio(0, 9));
        due.is("9 less 1", 8, () -> x.room(0));
    }

    @Says("7: A try: its number.")
    void p07NumbersRunOverAllPersonsAndCourses() {
        TrainingRows x = Setups.withCourses(2);
        due.is("a first pass", 0, () -> x.found(0, 0));
        due.is("another first pass", 1, () -> x.found(0, 1));
        x.teach(0, 0, true);
        x.teach(0, 1, true);
        due.is("a pass", 2, () -> x.result(1, 1, 100));
        due.is("a fail", 3, () -> x.result(2, 0, 0));
        due.is("a fail of the same", 4, () -> x.result(2, 0, 0));
    }

    @Says("7: range: the mark (0 .. 100)")
    void p07TheLeastAndTheGreatestMark() {
        TrainingRows x = Setups.withInstructor(0);
        due.refuses("-1", RANGE, () -> x.result(1, 0, -1));
        due.refuses("the least int", RANGE, () -> x.result(1, 0, Integer.MIN_VALUE));
        due.refuses("101", RANGE, () -> x.result(1, 0, 101));
        due.refuses("the greatest int", RANGE, () -> x.result(1, 0, Integer.MAX_VALUE));
        due.is("0", 1, () -> x.result(1, 0, 0));
        due.is("100", 2, () -> x.result(2, 0, 100));
        due.is("0 fails", 1, () -> x.failed(1, 0));
        due.is("100 passes", 10, () -> x.lapse(2, 0));
    }

    @Says("7: state: the person is barred")
    void p07RefusedForEachReason() {
        TrainingRows x = Setups.withFails(3);
        x.course(10, 50, 0);
        x.need(1, 0);
        x.found(0, 1);
        x.teach(0, 1, true);
        due.refuses("reason 1", STATE, () -> x.result(2, 1, 50));
        due.refuses("reason 2", STATE, () -> x.result(0, 0, 50));
        due.refuses("reason 3", STATE, () -> x.result(1, 0, 50));
        x.day(29);
        due.refuses("reason 3, on the last day of the pause", STATE, () -> x.result(1, 0, 50));
        x.day(30);
        due.is("the pause has gone by", 5, () -> x.result(1, 0, 50));
        due.is("the need is held, the instructor has lapsed", 0, () -> x.barred(1, 1));
        due.refuses("so there is no room", NO_ROOM, () -> x.result(1, 1, 50));
    }

    @Says("7: no room: the course has no room")
    void p07WithoutRoomForOneReasonOrAnother() {
        TrainingRows x = Setups.withCourses(1);
        due.refuses("no instructor, no result", NO_ROOM, () -> x.result(1, 0, 50));
        x.found(0, 0);
        due.refuses("no instructor is told", NO_ROOM, () -> x.result(1, 0, 50));
        x.teach(0, 0, true);
        due.is("two places, the first", 1, () -> x.result(1, 0, 50));
        due.is("two places, the last", 2, () -> x.result(2, 0, 50));
        due.refuses("the day is full", NO_ROOM, () -> x.result(3, 0, 50));
        x.ratio(0, 4);
        due.is("one more place", 3, () -> x.result(3, 0, 50));
        due.refuses("the day is full again", NO_ROOM, () -> x.result(4, 0, 50));
        x.teach(1, 0, true);
        due.is("another instructor", 4, () -> x.result(4, 0, 50));
        x.day(10);
        due.refuses("both have lapsed", NO_ROOM, () -> x.result(5, 0, 50));
    }

    @Says("7: or there are 300")
    void p07TheLastTry() {
        TrainingRows x = Setups.withResults(299);
        due.is("the 300th", 299, () -> x.result(1, 0, 0));
        due.is("the day is full too", 0, () -> x.room(0));
        x.day(100);
        due.is("there is room", 10, () -> x.room(0));
        due.refuses("the 301st", NO_ROOM, () -> x.result(1, 0, 0));
    }

    @Says("8: The first pass of a course, on the present day, whatever it needs and without room")
    void p08WithoutNeedsAndRoom() {
        TrainingRows x = new TrainingRows();
        x.course(10, 100, 0);
        x.course(1, 100, 0);
        x.need(1, 0);
        x.ratio(1, 0);
        x.day(9999);
        due.is("barred by a need", 1, () -> x.barred(19, 1));
        due.is("no room", 0, () -> x.room(1));
        due.is("it is a result", 0, () -> x.found(19, 1));
        due.is("and a pass", 1, () -> x.count(2));
        due.is("of the last day", 10000, () -> x.lapse(19, 1));
        due.is("held on it", true, () -> x.holds(19, 1, 9999));
        due.is("not before", false, () -> x.holds(19, 1, 9998));
    }

    @Says("8: state: it has a result")
    void p08TheFirstOneOnly() {
        TrainingRows x = Setups.withCourses(2);
        x.found(3, 0);
        due.refuses("the same person", STATE, () -> x.found(3, 0));
        due.refuses("another person", STATE, () -> x.found(4, 0));
        x.day(9999);
        due.refuses("long behind its lapse", STATE, () -> x.found(3, 0));
        due.is("another course", 1, () -> x.found(3, 1));
    }

    @Says("8: no room: there are 300")
    void p08TheLastResult() {
        TrainingRows x = Setups.withResults(299);
        x.course(10, 50, 0);
        due.is("the 300th", 299, () -> x.found(1, 1));
        due.refuses("the 301st", NO_ROOM, () -> x.found(1, 2));
        due.refuses("the 301st, asked again", NO_ROOM, () -> x.found(2, 2));
        due.is("300 in all", 300, () -> x.count(1));
    }

    @Says("9: A person is told as an instructor of a course, or not any more.")
    void p09AllPersonsAndBack() {
        TrainingRows x = Setups.withAllPersons(10);
        for (int person = 2; person < 20; person++) {
            int told = person;
            due.isDone("told: " + person, () -> x.teach(told, 0, true));
        }
        due.is("20 of them", 20, () -> x.count(3));
        for (int person = 0; person < 20; person++) {
            int told = person;
            int left = 19 - person;
            due.isDone("not any more: " + person, () -> x.teach(told, 0, false));
            due.is("so many are left", left, () -> x.count(3));
        }
        due.is("no room", 0, () -> x.room(0));
    }

    @Says("9: state: it is so")
    void p09ToldTwiceOrNever() {
        TrainingRows x = Setups.withHolders(0b11);
        due.refusesStep("told already", STATE, () -> x.teach(0, 0, true));
        due.refusesStep("never told", STATE, () -> x.teach(1, 0, false));
        due.isDone("not any more", () -> x.teach(0, 0, false));
        due.refusesStep("not any more, twice", STATE, () -> x.teach(0, 0, false));
        due.isDone("told again", () -> x.teach(0, 0, true));
        x.day(10);
        due.refusesStep("told already and lapsed", STATE, () -> x.teach(0, 0, true));
    }

    @Says("9: (told) the person does not hold it now")
    void p09ToldUpToTheLapse() {
        TrainingRows x = Setups.withInstructor(0);
        x.result(1, 0, 50);
        x.result(2, 0, 50);
        x.result(3, 0, 49);
        due.refusesStep("after a fail", STATE, () -> x.teach(3, 0, true));
        due.refusesStep("without a try", STATE, () -> x.teach(4, 0, true));
        x.day(9);
        due.isDone("on the last day held", () -> x.teach(1, 0, true));
        x.day(10);
        due.refusesStep("on the lapse", STATE, () -> x.teach(2, 0, true));
        due.isDone("who has lapsed can be told no more", () -> x.teach(1, 0, false));
    }

    @Says("10: by how many days the latest pass is put off in all")
    void p10ANewPassBeginsAtNone() {
        TrainingRows x = Setups.withInstructor(3);
        x.result(1, 0, 50);
        for (int day = 0; day < 5; day++) {
            int want = Math.min(day + 1, 3);
            x.day(day);
            due.is("use on day " + day, want, () -> x.use(1, 0));
        }
        x.day(5);
        x.result(1, 0, 50);
        due.is("of a new pass", 1, () -> x.use(1, 0));
        due.is("its lapse", 16, () -> x.lapse(1, 0));
    }

    @Says("10: state: the person does not hold it")
    void p10UsedUpToTheLapse() {
        TrainingRows x = Setups.withInstructor(3);
        x.result(1, 0, 50);
        x.result(2, 0, 49);
        due.refuses("without a try", STATE, () -> x.use(3, 0));
        due.refuses("after a fail", STATE, () -> x.use(2, 0));
        x.day(9);
        due.is("on the last day held", 1, () -> x.use(1, 0));
        x.day(10);
        due.refuses("on the lapse", STATE, () -> x.use(0, 0));
        x.day(9999);
        due.refuses("on the last day of all", STATE, () -> x.use(1, 0));
    }

    @Says("10: state: the person does not hold it")
    void p10ARefusedUseDoesNotTakeTheDay() {
        TrainingRows x = Setups.withInstructor(3);
        due.refuses("before the pass", STATE, () -> x.use(1, 0));
        x.result(1, 0, 50);
        due.is("behind it, on the same day", 1, () -> x.use(1, 0));
    }

    @Says("11: range: the day")
    void p11TheLeastAndTheGreatestDay() {
        TrainingRows x = new TrainingRows();
        x.course(2000, 0, 0);
        x.found(0, 0);
        due.refuses("-1", RANGE, () -> x.holds(0, 0, -1));
        due.refuses("the least int", RANGE, () -> x.holds(0, 0, Integer.MIN_VALUE));
        due.refuses("10,000", RANGE, () -> x.holds(0, 0, 10000));
        due.refuses("the greatest int", RANGE, () -> x.holds(0, 0, Integer.MAX_VALUE));
        due.refuses("10,000, without a pass", RANGE, () -> x.holds(1, 0, 10000));
        due.is("day 0", true, () -> x.holds(0, 0, 0));
        due.is("day 9,999", false, () -> x.holds(0, 0, 9999));
    }

    @Says("11: Whether a person holds a course on a day.")
    void p11OnTheLastDayOfAll() {
        TrainingRows x = new TrainingRows();
        x.course(1, 0, 1);
        x.course(1, 0, 1);
        x.day(9998);
        x.found(0, 0);
        x.found(0, 1);
        x.use(0, 1);
        due.is("lapsed on it", false, () -> x.holds(0, 0, 9999));
        due.is("put off over it", true, () -> x.holds(0, 1, 9999));
        x.day(9999);
        due.is("it is that day: lapsed", false, () -> x.holds(0, 0, 9999));
        due.is("it is that day: put off", true, () -> x.holds(0, 1, 9999));
    }

    @Says("12: The lapse of the latest pass, as of the present day")
    void p12StaysWhenItHasGoneBy() {
        TrainingRows x = Setups.withInstructor(1);
        x.result(1, 0, 50);
        x.result(1, 0, 0);
        due.is("a fail behind it", 10, () -> x.lapse(1, 0));
        x.use(1, 0);
        due.is("put off", 11, () -> x.lapse(1, 0));
        x.day(3);
        x.result(1, 0, 50);
        due.is("of the latest", 13, () -> x.lapse(1, 0));
        x.day(9999);
        due.is("gone by", 13, () -> x.lapse(1, 0));
    }

    @Says("12: -1 without one")
    void p12WithoutAPass() {
        TrainingRows x = Setups.withInstructor(1);
        due.is("without a try", -1, () -> x.lapse(1, 0));
        x.result(1, 0, 49);
        due.is("after a fail", -1, () -> x.lapse(1, 0));
        x.day(9999);
        due.is("on the last day", -1, () -> x.lapse(1, 0));
    }

    @Says("13: How many of the latest tries failed on end.")
    void p13FromNoneToAllOfThem() {
        TrainingRows x = Setups.withResults(300);
        due.is("no try", 0, () -> x.failed(2, 0));
        due.is("a pass alone", 0, () -> x.failed(0, 0));
        due.is("299 on end", 299, () -> x.failed(1, 0));
        due.is("of another course", 0, () -> x.failed(1, 1));
    }

    @Says("13: How many of the latest tries failed on end.")
    void p13APassBreaksThemOff() {
        TrainingRows x = Setups.withFails(2);
        due.is("two", 2, () -> x.failed(1, 0));
        x.result(1, 0, 50);
        due.is("none", 0, () -> x.failed(1, 0));
        x.result(1, 0, 49);
        due.is("one", 1, () -> x.failed(1, 0));
        x.result(2, 0, 100);
        x.day(9999);
        due.is("one, long ago", 1, () -> x.failed(1, 0));
    }

    @Says("14: Why a person is barred now; 0 not.")
    void p14NotBarredOrWhy() {
        TrainingRows x = Setups.withFails(3);
        x.course(10, 50, 0);
        x.need(1, 0);
        due.is("not", 0, () -> x.barred(2, 0));
        due.is("not, without room", 0, () -> x.barred(0, 1));
        due.is("a need", 1, () -> x.barred(2, 1));
        due.is("an instructor", 2, () -> x.barred(0, 0));
        due.is("three fails", 3, () -> x.barred(1, 0));
        x.day(2000);
        due.is("the need has lapsed", 1, () -> x.barred(0, 1));
        due.is("the pause has gone by", 0, () -> x.barred(1, 0));
    }

    @Says("14: Why a person is barred now; 0 not.")
    void p14FullRowsBarNobody() {
        TrainingRows x = Setups.withResults(300);
        due.is("300 results", 0, () -> x.barred(2, 0));
        due.is("299 fails without a pause", 0, () -> x.barred(1, 0));
    }

    @Says("15: The room of a course now.")
    void p15OnAnyDay() {
        TrainingRows x = Setups.withInstructor(0);
        due.is("9 of 10", 9, () -> x.room(0));
        x.day(1);
        due.is("all 10 on the next day", 10, () -> x.room(0));
        x.day(9);
        due.is("on the instructor's last day", 10, () -> x.room(0));
        x.day(10);
        due.is("none on the lapse", 0, () -> x.room(0));
    }

    @Says("16: Plans for so many seats (0 .. 12")
    void p16NoSeatAndTwelveSeats() {
        TrainingRows x = Setups.withAllPersons(10);
        for (int seats = 0; seats <= 12; seats++) {
            int number = seats;
            due.is(seats + " seats", number, () -> x.plan(0L, number, 10));
            due.refuses("no more", UNKNOWN, () -> x.seated(number));
        }
        due.refuses("13", RANGE, () -> x.plan(0L, 13, 10));
        due.refuses("16", RANGE, () -> x.plan(0L, 16, 10));
        due.refuses("the greatest int", RANGE, () -> x.plan(0L, Integer.MAX_VALUE, 10));
        due.refuses("-1", RANGE, () -> x.plan(0L, -1, 10));
        due.refuses("the least int", RANGE, () -> x.plan(0L, Integer.MIN_VALUE, 10));
    }

    @Says("16: seat i is of the course in bits 4 i .. 4 i + 3)")
    void p16EachSeatHasItsOwnBits() {
        int[] sets = new int[16];
        for (int course = 0; course < 16; course++) {
            sets[course] = 1 << course + 4;
        }
        TrainingRows x = Setups.withHolders(sets);
        for (int seat = 0; seat < 12; seat++) {
            int place = seat;
            long courses = 15L << 4 * seat;
            due.is("course 15 on seat " + seat, 2, () -> x.plan(courses, 12, 10));
            due.is("its person", 19, () -> x.seated(place));
            due.is("person 4 on the first other seat", 4, () -> x.seated(place == 0 ? 1 : 0));
        }
        due.is("four courses from 12 on", 4, () -> x.plan(0xFEDCL, 4, 10));
        due.seats("four courses from 12 on", x, 16, 17, 18, 19);
        due.is("bits behind the seats are not looked at", 1, () -> x.plan(0xFFFFFFFFFFFFFFF0L, 1, 10));
        due.seats("bits behind the seats are not looked at", x, 4);
        due.is("all bits", 1, () -> x.plan(-1L, 12, 10));
        due.seats("all bits", x, 19, -1, -1, -1, -1, -1, -1, -1, -1, -1, -1, -1);
    }

    @Says("16: lapses at most so many days (0 .. 2,100) behind the present one")
    void p16TheLeastAndTheGreatestDays() {
        TrainingRows x = new TrainingRows();
        x.course(1, 0, 0);
        x.course(2000, 0, 50);
        x.found(0, 0);
        x.found(1, 1);
        x.use(1, 1);
        due.is("0", 0, () -> x.plan(0x10L, 2, 0));
        due.seats("0", x, -1, -1);
        due.is("1", 1, () -> x.plan(0x10L, 2, 1));
        due.seats("1", x, 0, -1);
        due.is("2,000", 1, () -> x.plan(0x10L, 2, 2000));
        due.is("2,001", 2, () -> x.plan(0x10L, 2, 2001));
        due.is("2,100", 2, () -> x.plan(0x10L, 2, 2100));
        due.seats("2,100", x, 0, 1);
        due.refuses("2,101", RANGE, () -> x.plan(0x10L, 2, 2101));
        due.refuses("the greatest int", RANGE, () -> x.plan(0x10L, 2, Integer.MAX_VALUE));
        due.refuses("-1", RANGE, () -> x.plan(0x10L, 2, -1));
        due.refuses("the least int", RANGE, () -> x.plan(0x10L, 2, Integer.MIN_VALUE));
        due.refuses("2,101 without seats", RANGE, () -> x.plan(0x10L, 0, 2101));
        due.refuses("-1 without seats", RANGE, () -> x.plan(0x10L, 0, -1));
    }

    @Says("16: how many are on seats")
    void p16InstructorsAndBarredPersonsToo() {
        TrainingRows x = Setups.withHolders(0b11);
        x.course(10, 0, 0);
        x.need(0, 1);
        due.is("both are barred", 1, () -> x.barred(1, 0));
        due.is("and on seats", 2, () -> x.plan(0L, 3, 10));
        due.seats("and on seats", x, 0, 1, -1);
    }

    @Says("16: Unknown: the course of one of the seats")
    void p16AnUnknownCourseOnAnySeat() {
        TrainingRows x = Setups.withCourses(3);
        for (int seat = 0; seat < 12; seat++) {
            int seats = seat + 1;
            long known = 2L << 4 * seat;
            long unknown = 3L << 4 * seat;
            long last = 15L << 4 * seat;
            due.is("course 2 on seat " + seat, 0, () -> x.plan(known, seats, 10));
            due.refuses("course 3 on seat " + seat, UNKNOWN, () -> x.plan(unknown, seats, 10));
            due.refuses("course 15 on seat " + seat, UNKNOWN, () -> x.plan(last, 12, 10));
            due.is("course 3 behind the seats", 0, () -> x.plan(unknown, seats - 1, 10));
        }
        TrainingRows all = Setups.withCourses(16);
        due.is("course 15 of 16", 0, () -> all.plan(-1L, 12, 10));
    }

    @Says("16: (of 12 when there are more)")
    void p16TwelveCoursesOfMoreSeats() {
        TrainingRows x = Setups.withCourses(1);
        int[] more = {13, 14, 16, 17, 32, Integer.MAX_VALUE};
        for (int seats : more) {
            String of = " of " + seats;
            due.refuses("unknown on seat 0" + of, UNKNOWN, () -> x.plan(1L, seats, 10));
            due.refuses("unknown on seat 11" + of, UNKNOWN, () -> x.plan(1L << 44, seats, 10));
            due.refuses("unknown on seat 12" + of, RANGE, () -> x.plan(1L << 48, seats, 10));
            due.refuses("unknown on seat 15" + of, RANGE, () -> x.plan(1L << 63, seats, 10));
        }
        due.refuses("unknown on seat 0 of -1", RANGE, () -> x.plan(-1L, -1, 10));
        due.refuses("of the least int", RANGE, () -> x.plan(-1L, Integer.MIN_VALUE, 10));
        due.is("unknown on seat 0 of 0", 0, () -> x.plan(-1L, 0, 10));
    }

    @Says("17: The person on a seat of the latest plan; -1 for none.")
    void p17TheLatestPlanOnLaterDays() {
        TrainingRows x = Setups.withHolders(0b11, 0b100);
        x.plan(0x10L, 2, 10);
        due.seats("the first plan", x, 0, 2);
        x.plan(0x01L, 2, 10);
        due.seats("the second plan", x, 2, 0);
        x.day(9999);
        due.seats("who have lapsed are on it still", x, 2, 0);
        x.plan(0x01L, 2, 10);
        due.seats("the third plan", x, -1, -1);
    }

    @Says("17: Unknown: it has no such seat.")
    void p17SeatsAroundThePlan() {
        TrainingRows x = Setups.withInstructor(0);
        due.refuses("no plan, seat 0", UNKNOWN, () -> x.seated(0));
        due.refuses("no plan, seat -1", UNKNOWN, () -> x.seated(-1));
        x.plan(0L, 12, 10);
        due.is("seat 11 of 12", -1, () -> x.seated(11));
        for (int number : new int[] {Integer.MIN_VALUE, -1, 12, 13, 16, 32, Integer.MAX_VALUE}) {
            due.refuses("seat " + number + " of 12", UNKNOWN, () -> x.seated(number));
        }
        x.plan(0L, 1, 10);
        due.is("seat 0 of 1", 0, () -> x.seated(0));
        due.refuses("seat 1 of 1", UNKNOWN, () -> x.seated(1));
        due.refuses("seat 11 of 1", UNKNOWN, () -> x.seated(11));
        x.plan(0L, 0, 10);
        due.refuses("seat 0 of 0", UNKNOWN, () -> x.seated(0));
    }

    @Says("18: The i-th person (0 first)")
    void p18FromTheFirstToTheLastPerson() {
        TrainingRows x = Setups.withAllPersons(1);
        for (int i = 0; i < 20; i++) {
            int place = i;
            due.is("place " + i, place, () -> x.tomorrow(0, place));
        }
        due.is("place 20", -1, () -> x.tomorrow(0, 20));
    }

    @Says("18: who holds a course now and whose lapse is the next day")
    void p18LapsesAroundTheNextDay() {
        TrainingRows x = Setups.withInstructor(5);
        x.result(1, 0, 50);
        x.result(2, 0, 0);
        x.day(1);
        x.result(3, 0, 50);
        x.day(8);
        due.is("none on day 8", -1, () -> x.tomorrow(0, 0));
        x.day(9);
        due.is("persons of day 0, the first", 0, () -> x.tomorrow(0, 0));
        due.is("persons of day 0, the second", 1, () -> x.tomorrow(0, 1));
        due.is("persons of day 0, no third", -1, () -> x.tomorrow(0, 2));
        x.use(0, 0);
        due.is("put off by a day", 1, () -> x.tomorrow(0, 0));
        x.day(10);
        due.is("the one put off", 0, () -> x.tomorrow(0, 0));
        due.is("the one of day 1", 3, () -> x.tomorrow(0, 1));
        x.day(11);
        due.is("all have lapsed", -1, () -> x.tomorrow(0, 0));
    }

    @Says("18: who holds a course now and whose lapse is the next day")
    void p18OnTheLastDay() {
        TrainingRows x = new TrainingRows();
        x.course(1, 0, 0);
        x.course(2, 0, 0);
        x.day(9999);
        x.found(5, 0);
        x.found(5, 1);
        due.is("a lapse on 10,000", 5, () -> x.tomorrow(0, 0));
        due.is("a lapse on 10,001", -1, () -> x.tomorrow(1, 0));
    }

    @Says("18: -1 when there are not so many")
    void p18NotSoMany() {
        TrainingRows x = Setups.withHolders(0b1);
        due.is("none at all", -1, () -> x.tomorrow(0, 0));
        x.day(9);
        due.is("one", 0, () -> x.tomorrow(0, 0));
        due.is("not two", -1, () -> x.tomorrow(0, 1));
        due.is("not 33", -1, () -> x.tomorrow(0, 32));
        due.is("not as many as an int", -1, () -> x.tomorrow(0, Integer.MAX_VALUE));
        TrainingRows none = Setups.withCourses(1);
        due.is("nobody has a pass", -1, () -> none.tomorrow(0, 0));
    }

    @Says("18: range: i is below 0")
    void p18PlacesBelowZero() {
        TrainingRows x = Setups.withAllPersons(1);
        due.refuses("-1", RANGE, () -> x.tomorrow(0, -1));
        due.refuses("the least int", RANGE, () -> x.tomorrow(0, Integer.MIN_VALUE));
        due.is("0", 0, () -> x.tomorrow(0, 0));
    }

    @Says("19: How many 0 courses, 1 results, 2 passes")
    void p19EmptyAndFull() {
        TrainingRows x = Setups.withCourses(16);
        due.is("16 courses", 16, () -> x.count(0));
        due.is("no results", 0, () -> x.count(1));
        due.is("no passes", 0, () -> x.count(2));
        TrainingRows full = Setups.withResults(300);
        due.is("2 courses", 2, () -> full.count(0));
        due.is("300 results", 300, () -> full.count(1));
        due.is("1 pass", 1, () -> full.count(2));
    }

    @Says("19: 3 pairs of an instructor and a course that count now")
    void p19PairsThatCountNow() {
        TrainingRows x = Setups.withHolders(0b11, 0b1);
        x.course(5, 0, 1);
        x.found(0, 2);
        due.is("not told", 2, () -> x.count(3));
        x.teach(0, 2, true);
        x.teach(1, 0, true);
        due.is("a person of three courses, a course of two persons", 4, () -> x.count(3));
        x.use(0, 2);
        x.day(5);
        due.is("all by a use", 4, () -> x.count(3));
        x.day(6);
        due.is("one has lapsed", 3, () -> x.count(3));
        x.day(10);
        due.is("all have lapsed", 0, () -> x.count(3));
    }

    @Says("19: 3 pairs of an instructor and a course that count now")
    void p19PairsOfAllCourses() {
        TrainingRows x = Setups.withCourses(16);
        for (int course = 0; course < 16; course++) {
            x.found(19, course);
            x.teach(19, course, true);
        }
        due.is("one person, 16 courses", 16, () -> x.count(3));
        x.teach(19, 15, false);
        due.is("15 of them", 15, () -> x.count(3));
    }

    @Says("19: Unknown: no such what.")
    void p19NumbersThatAreNoWhat() {
        TrainingRows x = Setups.withInstructor(0);
        for (int number : Setups.NEVER_KNOWN) {
            due.refuses("what " + number, UNKNOWN, () -> x.count(number));
        }
        due.refuses("what 4", UNKNOWN, () -> x.count(4));
        for (int what = 0; what < 4; what++) {
            int which = what;
            due.is("what " + what, 1, () -> x.count(which));
        }
    }
}
