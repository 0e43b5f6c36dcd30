/** The boundary cases that the document's "Terms" name, each with a test of its own. */
public final class TermsTests {
    private static final Class<IllegalArgumentException> UNKNOWN = Due.UNKNOWN;
    private static final Class<IndexOutOfBoundsException> RANGE = Due.RANGE;
    private static final Class<IllegalStateException> STATE = Due.STATE;
    private static final Class<UnsupportedOperationException> NO_ROOM = Due.NO_ROOM;

    private final Due due = new Due();

    public static void main(String[] args) {
        TermsTests tests = new TermsTests();
        tests.due.runTestsOf(tests);
        tests.due.end();
    }

    @Says("An object is used for at most 512 calls after it has been made")
    void the512thCallIsAnswered() {
        TrainingRows x = new TrainingRows();
        x.course(2000, 0, 50);
        x.found(0, 0);
        for (int day = 1; day <= 255; day++) {
            int want = Math.min(day, 50);
            x.day(day);
            due.is("use on day " + day, want, () -> x.use(0, 0));
        }
    }

    @Says("An object is used for at most 512 calls after it has been made")
    void usesOfAllPersonsUpToThe512thCall() {
        TrainingRows x = Setups.withAllPersons(2000);
        for (int day = 1; day <= 23; day++) {
            x.day(day);
            for (int person = 0; person < 20; person++) {
                int user = person;
                due.is("use " + day + " of person " + person, day, () -> x.use(user, 0));
            }
        }
        due.is("lapse of person 19", 2023, () -> x.lapse(19, 0));
        due.is("lapse of person 0", 2023, () -> x.lapse(0, 0));
    }

    @Says("DAYS are 0 .. 9,999")
    void theLeastAndTheGreatestDay() {
        TrainingRows x = Setups.withCourses(1);
        due.isDone("day 0", () -> x.day(0));
        due.refusesStep("day -1", RANGE, () -> x.day(-1));
        due.refusesStep("the least int", RANGE, () -> x.day(Integer.MIN_VALUE));
        due.refusesStep("day 10,000", RANGE, () -> x.day(10000));
        due.refusesStep("the greatest int", RANGE, () -> x.day(Integer.MAX_VALUE));
        due.isDone("day 9,999", () -> x.day(9999));
        due.refusesStep("day 10,000 behind the last", RANGE, () -> x.day(10000));
    }

    @Says("THE DAY is 0 at first")
    void theDayIsZeroAtFirst() {
        TrainingRows x = new TrainingRows();
        x.course(1, 0, 0);
        x.found(0, 0);
        due.is("lapse", 1, () -> x.lapse(0, 0));
        due.is("held on day 0", true, () -> x.holds(0, 0, 0));
        due.isDone("day 0 is not below the present one", () -> x.day(0));
    }

    @Says("and never goes back")
    void theDayNeverGoesBack() {
        TrainingRows x = Setups.withCourses(1);
        x.day(5);
        due.refusesStep("a day back", RANGE, () -> x.day(4));
        due.refusesStep("day 0", RANGE, () -> x.day(0));
        due.refusesStep("below 0", RANGE, () -> x.day(-1));
        x.found(0, 0);
        due.is("it is day 5 still", 15, () -> x.lapse(0, 0));
        due.isDone("the present one again", () -> x.day(5));
        due.isDone("the next one", () -> x.day(6));
        due.refusesStep("and then back", RANGE, () -> x.day(5));
    }

    @Says("PERSONS 0 .. 19")
    void theLeastAndTheGreatestPerson() {
        TrainingRows x = Setups.withCourses(2);
        due.is("found for 0", 0, () -> x.found(0, 0));
        due.is("found for 19", 1, () -> x.found(19, 1));
        due.isDone("0 teaches", () -> x.teach(0, 0, true));
        due.isDone("19 teaches", () -> x.teach(19, 1, true));
        due.is("a result of 19", 2, () -> x.result(19, 0, 50));
        due.is("a result of 0", 3, () -> x.result(0, 1, 50));
        for (int person = 0; person < 20; person += 19) {
            int known = person;
            due.is("use by " + known, 1, () -> x.use(known, 0));
            due.is("holds of " + known, true, () -> x.holds(known, 0, 0));
            due.is("lapse of " + known, 11, () -> x.lapse(known, 0));
            due.is("failed of " + known, 0, () -> x.failed(known, 0));
            due.is("barred of " + known, known == 0 ? 2 : 0, () -> x.barred(known, 0));
        }
    }

    @Says("PERSONS 0 .. 19")
    void numbersThatAreNoPersons() {
        TrainingRows x = Setups.withInstructor(5);
        x.course(10, 50, 5);
        for (int number : Setups.NEVER_KNOWN) {
            String of = " of person " + number;
            due.refuses("result" + of, UNKNOWN, () -> x.result(number, 0, 50));
            due.refuses("found" + of, UNKNOWN, () -> x.found(number, 1));
            due.refusesStep("teach" + of, UNKNOWN, () -> x.teach(number, 0, true));
            due.refusesStep("teach no more" + of, UNKNOWN, () -> x.teach(number, 0, false));
            due.refuses("use" + of, UNKNOWN, () -> x.use(number, 0));
            due.refuses("holds" + of, UNKNOWN, () -> x.holds(number, 0, 0));
            due.refuses("lapse" + of, UNKNOWN, () -> x.lapse(number, 0));
            due.refuses("failed" + of, UNKNOWN, () -> x.failed(number, 0));
            due.refuses("barred" + of, UNKNOWN, () -> x.barred(number, 0));
        }
    }

    @Says("COURSES 0, 1, .. (at most 16)")
    void sixteenCoursesAndNotOneMore() {
        TrainingRows x = new TrainingRows();
        for (int i = 0; i < 16; i++) {
            int number = i;
            due.is("course " + i, number, () -> x.course(10, 50, 2));
        }
        due.refuses("a 17th", NO_ROOM, () -> x.course(10, 50, 2));
        due.refuses("a 17th, asked again", NO_ROOM, () -> x.course(1, 0, 0));
        due.is("the last one can be used", 0, () -> x.found(19, 15));
        due.refuses("there is no course 16", UNKNOWN, () -> x.found(19, 16));
    }

    @Says("COURSES 0, 1, .. (at most 16)")
    void numbersThatAreNoCourses() {
        for (int courses = 0; courses <= 16; courses++) {
            refusesCourse(Setups.withCourses(courses), courses);
        }
        for (int number : Setups.NEVER_KNOWN) {
            refusesCourse(Setups.withCourses(16), number);
            refusesCourse(Setups.withCourses(1), number);
        }
    }

    private void refusesCourse(TrainingRows x, int number) {
        String of = " of course " + number;
        due.refusesStep("need" + of, UNKNOWN, () -> x.need(number, 0));
        due.refusesStep("need" + of + " for another", UNKNOWN, () -> x.need(0, number));
        due.refusesStep("ratio" + of, UNKNOWN, () -> x.ratio(number, 1));
        due.refuses("result" + of, UNKNOWN, () -> x.result(0, number, 50));
        due.refuses("found" + of, UNKNOWN, () -> x.found(0, number));
        due.refusesStep("teach" + of, UNKNOWN, () -> x.teach(0, number, true));
        due.refusesStep("teach no more" + of, UNKNOWN, () -> x.teach(0, number, false));
        due.refuses("use" + of, UNKNOWN, () -> x.use(0, number));
        due.refuses("holds" + of, UNKNOWN, () -> x.holds(0, number, 0));
        due.refuses("lapse" + of, UNKNOWN, () -> x.lapse(0, number));
        due.refuses("failed" + of, UNKNOWN, () -> x.failed(0, number));
        due.refuses("barred" + of, UNKNOWN, () -> x.barred(0, number));
        due.refuses("room" + of, UNKNOWN, () -> x.room(number));
        due.refuses("tomorrow" + of, UNKNOWN, () -> x.tomorrow(number, 0));
    }

    @Says("COURSES 0, 1, .. (at most 16)")
    void eachPersonAndCourseIsItsOwn() {
        TrainingRows x = Setups.withCourses(16);
        x.found(0, 15);
        x.found(19, 0);
        x.teach(0, 15, true);
        x.teach(19, 0, true);
        x.use(0, 15);
        due.is("course 15 of person 0", 11, () -> x.lapse(0, 15));
        due.is("course 0 of person 1", -1, () -> x.lapse(1, 0));
        due.is("course 0 of person 19", 10, () -> x.lapse(19, 0));
        due.is("course 15 of person 18", -1, () -> x.lapse(18, 15));
        x.result(1, 0, 0);
        x.result(19, 15, 0);
        due.is("fails of person 1 in course 0", 1, () -> x.failed(1, 0));
        due.is("fails of person 0 in course 15", 0, () -> x.failed(0, 15));
        due.is("fails of person 19 in course 15", 1, () -> x.failed(19, 15));
        due.is("instructor of course 15", 2, () -> x.barred(0, 15));
        due.is("not of course 14", 0, () -> x.barred(0, 14));
    }

    @Says("have a TERM (1 .. 2,000 days)")
    void theLeastAndTheGreatestTerm() {
        TrainingRows x = new TrainingRows();
        due.refuses("0", RANGE, () -> x.course(0, 0, 0));
        due.refuses("-1", RANGE, () -> x.course(-1, 0, 0));
        due.refuses("the least int", RANGE, () -> x.course(Integer.MIN_VALUE, 0, 0));
        due.refuses("2,001", RANGE, () -> x.course(2001, 0, 0));
        due.refuses("the greatest int", RANGE, () -> x.course(Integer.MAX_VALUE, 0, 0));
        due.is("1", 0, () -> x.course(1, 0, 0));
        due.is("2,000", 1, () -> x.course(2000, 0, 0));
        x.found(0, 0);
        x.found(0, 1);
        due.is("1 day: the lapse", 1, () -> x.lapse(0, 0));
        due.is("1 day: day 0", true, () -> x.holds(0, 0, 0));
        due.is("1 day: day 1", false, () -> x.holds(0, 0, 1));
        due.is("2,000 days: the lapse", 2000, () -> x.lapse(0, 1));
        due.is("2,000 days: day 1,999", true, () -> x.holds(0, 1, 1999));
        due.is("2,000 days: day 2,000", false, () -> x.holds(0, 1, 2000));
    }

    @Says("a PASS mark (0 .. 100)")
    void theLeastAndTheGreatestPassMark() {
        TrainingRows x = new TrainingRows();
        due.refuses("-1", RANGE, () -> x.course(10, -1, 0));
        due.refuses("the least int", RANGE, () -> x.course(10, Integer.MIN_VALUE, 0));
        due.refuses("101", RANGE, () -> x.course(10, 101, 0));
        due.refuses("the greatest int", RANGE, () -> x.course(10, Integer.MAX_VALUE, 0));
        due.is("0", 0, () -> x.course(10, 0, 0));
        due.is("100", 1, () -> x.course(10, 100, 0));
        for (int course = 0; course < 2; course++) {
            x.found(0, course);
            x.teach(0, course, true);
        }
        x.result(1, 0, 0);
        due.is("0 is enough for 0", 10, () -> x.lapse(1, 0));
        x.result(1, 1, 99);
        due.is("99 is not enough for 100", -1, () -> x.lapse(1, 1));
        x.result(1, 1, 100);
        due.is("100 is", 10, () -> x.lapse(1, 1));
    }

    @Says("a CAP (0 .. 50)")
    void theLeastAndTheGreatestCap() {
        TrainingRows x = new TrainingRows();
        due.refuses("-1", RANGE, () -> x.course(10, 0, -1));
        due.refuses("the least int", RANGE, () -> x.course(10, 0, Integer.MIN_VALUE));
        due.refuses("51", RANGE, () -> x.course(10, 0, 51));
        due.refuses("the greatest int", RANGE, () -> x.course(10, 0, Integer.MAX_VALUE));
        due.is("0", 0, () -> x.course(10, 0, 0));
        due.is("50", 1, () -> x.course(10, 0, 50));
        x.found(0, 0);
        x.found(0, 1);
        due.is("a cap of 0 puts off nothing", 0, () -> x.use(0, 0));
        due.is("nor the lapse", 10, () -> x.lapse(0, 0));
        for (int day = 0; day < 50; day++) {
            int want = day + 1;
            x.day(day);
            due.is("use on day " + day, want, () -> x.use(0, 1));
        }
        x.day(50);
        due.is("a 51st day puts off no more", 50, () -> x.use(0, 1));
        due.is("the lapse with 50", 60, () -> x.lapse(0, 1));
    }

    @Says("a RATIO (0 .. 10; 3 at first)")
    void theFirstTheLeastAndTheGreatestRatio() {
        TrainingRows x = Setups.withCourses(16);
        x.found(0, 0);
        x.teach(0, 0, true);
        x.found(0, 15);
        x.teach(0, 15, true);
        x.day(1);
        due.is("3 at first", 3, () -> x.room(0));
        due.is("3 at first, of the last course too", 3, () -> x.room(15));
        due.refusesStep("-1", RANGE, () -> x.ratio(0, -1));
        due.refusesStep("the least int", RANGE, () -> x.ratio(0, Integer.MIN_VALUE));
        due.refusesStep("11", RANGE, () -> x.ratio(0, 11));
        due.refusesStep("the greatest int", RANGE, () -> x.ratio(0, Integer.MAX_VALUE));
        due.is("3 still", 3, () -> x.room(0));
        due.isDone("10", () -> x.ratio(0, 10));
        due.is("room for 10", 10, () -> x.room(0));
        due.isDone("0", () -> x.ratio(0, 0));
        due.is("room for none", 0, () -> x.room(0));
        due.refuses("no try", NO_ROOM, () -> x.result(1, 0, 50));
        due.is("the other course keeps its own", 3, () -> x.room(15));
    }

    @Says("no course needs itself")
    void noCourseNeedsItself() {
        TrainingRows x = Setups.withCourses(16);
        for (int course = 0; course < 16; course++) {
            int same = course;
            due.refusesStep("course " + course, STATE, () -> x.need(same, same));
            due.is("not barred by itself", 0, () -> x.barred(0, same));
        }
    }

    @Says("also not by way of others")
    void noCourseNeedsItselfByWayOfAllOthers() {
        TrainingRows up = Setups.withCourses(16);
        TrainingRows down = Setups.withCourses(16);
        for (int i = 0; i < 15; i++) {
            int lower = i;
            int upper = 14 - i;
            due.isDone("told from below", () -> up.need(lower + 1, lower));
            due.isDone("told from above", () -> down.need(upper + 1, upper));
        }
        for (int i = 1; i < 16; i++) {
            int course = i;
            due.refusesStep("0 needs " + i + ", told from below", STATE, () -> up.need(0, course));
            due.refusesStep("0 needs " + i + ", told from above", STATE, () -> down.need(0, course));
        }
        due.isDone("two ways to a need are no circle", () -> up.need(15, 0));
    }

    @Says("also not by way of others")
    void aCircleClosedByTheLinkOfTwoChains() {
        TrainingRows x = Setups.withCourses(6);
        x.need(2, 1);
        x.need(1, 0);
        x.need(5, 4);
        x.need(4, 3);
        x.need(0, 5);
        for (int above = 0; above < 3; above++) {
            for (int below = 3; below < 6; below++) {
                int course = below;
                int other = above;
                due.refusesStep(course + " needs " + other, STATE, () -> x.need(course, other));
            }
        }
        due.isDone("the other way is none", () -> x.need(2, 3));
    }

    @Says("RESULTS 0, 1, .. (at most 300)")
    void threeHundredResultsAndNotOneMore() {
        TrainingRows x = Setups.withResults(298);
        due.is("two are left", 298, () -> x.count(1));
        due.is("number 298", 298, () -> x.result(1, 0, 0));
        due.is("number 299", 299, () -> x.result(1, 0, 50));
        x.day(30);
        due.is("the course has room", 10, () -> x.room(0));
        due.refuses("a 301st", NO_ROOM, () -> x.result(1, 0, 50));
        due.refuses("a 301st that fails", NO_ROOM, () -> x.result(2, 0, 0));
        due.refuses("a 301st as a first pass", NO_ROOM, () -> x.found(1, 1));
        due.is("300 in all", 300, () -> x.count(1));
        due.is("the last one is a pass", 2029, () -> x.lapse(1, 0));
        due.is("of two", 2, () -> x.count(2));
    }

    @Says("the try PASSES when its mark is not below the pass mark, otherwise it FAILS")
    void marksAroundThePassMark() {
        TrainingRows x = Setups.withInstructor(0);
        x.result(1, 0, 49);
        x.result(2, 0, 50);
        x.result(3, 0, 51);
        due.is("49 fails", 1, () -> x.failed(1, 0));
        due.is("49 is no pass", -1, () -> x.lapse(1, 0));
        due.is("50 passes", 10, () -> x.lapse(2, 0));
        due.is("50 is no fail", 0, () -> x.failed(2, 0));
        due.is("51 passes", 10, () -> x.lapse(3, 0));
        due.is("with the first pass three", 3, () -> x.count(2));
    }

    @Says("on each day on which a person uses a course that they hold")
    void usesFromTheDayOfThePassToTheLastOneHeld() {
        TrainingRows x = Setups.withInstructor(50);
        x.course(10, 50, 50);
        due.refuses("without a pass", STATE, () -> x.use(1, 0));
        due.is("on the day of the pass", 1, () -> x.use(0, 0));
        x.found(1, 1);
        x.day(9);
        due.is("on the last day held", 1, () -> x.use(1, 1));
        x.day(10);
        due.is("on the day that it put off to", 2, () -> x.use(1, 1));
        due.is("the last day held of the other", 2, () -> x.use(0, 0));
        x.day(12);
        due.refuses("on the lapse", STATE, () -> x.use(1, 1));
        due.refuses("on the other's lapse", STATE, () -> x.use(0, 0));
    }

    @Says("as long as it was put off less than the cap")
    void oneBelowTheCapAndAtIt() {
        TrainingRows x = Setups.withInstructor(2);
        due.is("the first", 1, () -> x.use(0, 0));
        x.day(1);
        due.is("from one below the cap", 2, () -> x.use(0, 0));
        x.day(2);
        due.is("at the cap", 2, () -> x.use(0, 0));
        due.is("the lapse", 12, () -> x.lapse(0, 0));
        x.day(11);
        due.is("at the cap on the last day", 2, () -> x.use(0, 0));
        due.is("day 12 is not held", false, () -> x.holds(0, 0, 12));
    }

    @Says("a day counts once for a person and course")
    void aDayCountsOnceForAPersonAndCourse() {
        TrainingRows x = Setups.withHolders(0b11);
        x.course(10, 0, 5);
        x.course(10, 0, 5);
        x.found(0, 1);
        x.teach(0, 1, true);
        x.result(1, 1, 0);
        x.found(0, 2);
        due.is("the first use", 1, () -> x.use(0, 1));
        due.is("the same day again", 1, () -> x.use(0, 1));
        due.is("and again", 1, () -> x.use(0, 1));
        due.is("of another person", 1, () -> x.use(1, 1));
        due.is("of another course", 1, () -> x.use(0, 2));
        due.is("the first again", 1, () -> x.use(0, 1));
        x.day(0);
        due.is("told the same day again", 1, () -> x.use(0, 1));
        x.day(1);
        due.is("on the next day", 2, () -> x.use(0, 1));
        due.is("once again", 2, () -> x.use(0, 1));
    }

    @Says("(whether it put off or not")
    void aDayThatPutOffNothingHasCounted() {
        TrainingRows x = Setups.withInstructor(1);
        x.result(1, 0, 50);
        x.use(1, 0);
        x.day(1);
        due.is("the cap is reached", 1, () -> x.use(1, 0));
        x.result(1, 0, 50);
        due.is("the day has counted", 0, () -> x.use(1, 0));
        due.is("so the new pass is not put off", 11, () -> x.lapse(1, 0));
        x.day(2);
        due.is("the next day counts for it", 1, () -> x.use(1, 0));
    }

    @Says("for whichever pass)")
    void aDayThatPutOffThePassBeforeHasCounted() {
        TrainingRows x = Setups.withInstructor(5);
        x.result(1, 0, 50);
        due.is("the first pass", 1, () -> x.use(1, 0));
        x.result(1, 0, 50);
        due.is("the second pass of the day", 0, () -> x.use(1, 0));
        due.is("is not put off", 10, () -> x.lapse(1, 0));
        x.day(1);
        due.is("the next day counts for it", 1, () -> x.use(1, 0));
        due.is("and puts it off", 11, () -> x.lapse(1, 0));
    }

    @Says("THE LAPSE of a pass, as of a day, is the day of the pass, the term, and as many days"
            + " as it was put off by uses up to that day")
    void theLapseOfALaterDayWithUses() {
        TrainingRows x = new TrainingRows();
        x.course(2000, 0, 50);
        x.day(9949);
        x.found(0, 0);
        due.is("without a use", 11949, () -> x.lapse(0, 0));
        for (int day = 9949; day <= 9999; day++) {
            x.day(day);
            x.use(0, 0);
        }
        due.is("with all that the cap allows", 11999, () -> x.lapse(0, 0));
    }

    @Says("A person HOLDS a course on a day when there is a pass up to that day")
    void aPassOfThatDayAndOfADayBefore() {
        TrainingRows x = Setups.withCourses(1);
        due.is("no pass at all", false, () -> x.holds(3, 0, 0));
        x.day(5);
        x.found(3, 0);
        due.is("day 0", false, () -> x.holds(3, 0, 0));
        due.is("the day before", false, () -> x.holds(3, 0, 4));
        due.is("the day of the pass", true, () -> x.holds(3, 0, 5));
        due.is("the day behind", true, () -> x.holds(3, 0, 6));
        due.is("not of another person", false, () -> x.holds(4, 0, 5));
    }

    @Says("and the day is below the lapse, as of it")
    void theDaysAroundTheLapse() {
        TrainingRows x = Setups.withInstructor(5);
        due.is("one below, to come", true, () -> x.holds(0, 0, 9));
        due.is("at it, to come", false, () -> x.holds(0, 0, 10));
        x.day(9);
        x.use(0, 0);
        due.is("one below the new one", true, () -> x.holds(0, 0, 10));
        due.is("at the new one", false, () -> x.holds(0, 0, 11));
        x.day(10);
        x.use(0, 0);
        x.day(11);
        due.is("day 11 by the uses of days 9 and 10", true, () -> x.holds(0, 0, 11));
        due.is("day 12", false, () -> x.holds(0, 0, 12));
        x.day(9999);
        due.is("long ago, day 11", true, () -> x.holds(0, 0, 11));
        due.is("long ago, day 12", false, () -> x.holds(0, 0, 12));
    }

    @Says("of the latest such pass")
    void theLatestPassUpToADay() {
        TrainingRows x = Setups.withInstructor(50);
        x.result(1, 0, 50);
        for (int day = 0; day <= 4; day++) {
            x.day(day);
            x.use(1, 0);
        }
        due.is("the first pass lapses on day 15", 15, () -> x.lapse(1, 0));
        x.result(1, 0, 50);
        due.is("a newer one before that", 14, () -> x.lapse(1, 0));
        due.is("on day 13", true, () -> x.holds(1, 0, 13));
        due.is("on day 14 the older one does not count", false, () -> x.holds(1, 0, 14));
        due.is("on day 3 it does", true, () -> x.holds(1, 0, 3));
        x.day(14);
        due.refuses("no use on day 14", STATE, () -> x.use(1, 0));
    }

    @Says("of the latest such pass")
    void theLaterOneOfTwoPassesOfADay() {
        TrainingRows x = Setups.withInstructor(50);
        x.result(1, 0, 50);
        x.use(1, 0);
        due.is("day 10 by the first", true, () -> x.holds(1, 0, 10));
        x.result(1, 0, 50);
        due.is("not by the second", false, () -> x.holds(1, 0, 10));
        due.is("day 9 by the second", true, () -> x.holds(1, 0, 9));
    }

    @Says("of the latest such pass")
    void aGapBetweenPasses() {
        TrainingRows x = Setups.withInstructor(50);
        x.result(1, 0, 50);
        for (int day = 0; day < 5; day++) {
            x.day(day);
            x.use(0, 0);
        }
        x.day(12);
        x.result(1, 0, 50);
        x.use(1, 0);
        x.day(30);
        due.is("the last day of the first", true, () -> x.holds(1, 0, 9));
        due.is("its lapse", false, () -> x.holds(1, 0, 10));
        due.is("the day before the second", false, () -> x.holds(1, 0, 11));
        due.is("the day of the second", true, () -> x.holds(1, 0, 12));
        due.is("the last day of the second", true, () -> x.holds(1, 0, 22));
        due.is("its lapse too", false, () -> x.holds(1, 0, 23));
    }

    @Says("they count on a day when they hold it")
    void instructorsCountUpToTheirLapse() {
        TrainingRows x = Setups.withInstructor(5);
        x.day(9);
        due.is("room on the last day held", 10, () -> x.room(0));
        due.is("counted on it", 1, () -> x.count(3));
        x.use(0, 0);
        x.day(10);
        due.is("room by a use", 10, () -> x.room(0));
        x.day(11);
        due.is("no room on the lapse", 0, () -> x.room(0));
        due.is("not counted on it", 0, () -> x.count(3));
        due.is("told still", 2, () -> x.barred(0, 0));
    }

    @Says("A course has ROOM on the present day for its ratio times instructors who count")
    void theGreatestRoom() {
        TrainingRows x = Setups.withAllPersons(10);
        for (int person = 2; person < 20; person++) {
            x.teach(person, 0, true);
        }
        due.is("less the results of the day", 180, () -> x.room(0));
        x.day(1);
        due.is("10 times 20", 200, () -> x.room(0));
        due.is("all count", 20, () -> x.count(3));
    }

    @Says("less its results on that day")
    void theLastPlaceOfTheDay() {
        TrainingRows x = Setups.withInstructor(0);
        x.day(1);
        x.ratio(0, 2);
        x.result(1, 0, 50);
        due.is("one left", 1, () -> x.room(0));
        due.is("a try that fails", 2, () -> x.result(2, 0, 0));
        due.is("none left", 0, () -> x.room(0));
        due.refuses("a third try", NO_ROOM, () -> x.result(3, 0, 50));
        x.day(1);
        due.refuses("on the same day, told again", NO_ROOM, () -> x.result(3, 0, 50));
        x.day(2);
        due.is("all of them on the next day", 2, () -> x.room(0));
        due.is("the third try", 3, () -> x.result(3, 0, 50));
    }

    @Says("(the first pass among them")
    void theFirstPassTakesRoom() {
        TrainingRows x = Setups.withCourses(2);
        x.found(0, 0);
        x.teach(0, 0, true);
        due.is("3 less 1", 2, () -> x.room(0));
        x.found(0, 1);
        due.is("not the first pass of another course", 2, () -> x.room(0));
        x.day(1);
        due.is("not that of another day", 3, () -> x.room(0));
    }

    @Says("0 at least)")
    void roomIsNotBelowZero() {
        TrainingRows x = Setups.withInstructor(0);
        x.result(1, 0, 50);
        x.result(2, 0, 50);
        x.ratio(0, 2);
        due.is("2 less 3", 0, () -> x.room(0));
        x.ratio(0, 3);
        due.is("3 less 3", 0, () -> x.room(0));
        x.ratio(0, 4);
        due.is("4 less 3", 1, () -> x.room(0));
        x.teach(0, 0, false);
        due.is("0 less 3", 0, () -> x.room(0));
        TrainingRows y = Setups.withCourses(1);
        due.is("0 less 0", 0, () -> y.room(0));
        y.found(0, 0);
        due.is("0 less 1", 0, () -> y.room(0));
    }

    /** Course 1 needs course 0; person 1 passed it, failed it three times and teaches it. */
    private static TrainingRows withAllReasons() {
        TrainingRows x = Setups.withHolders(0b11);
        x.course(100, 50, 0);
        x.ratio(1, 10);
        x.found(0, 1);
        x.teach(0, 1, true);
        x.result(1, 1, 50);
        for (int i = 0; i < 3; i++) {
            x.result(1, 1, 0);
        }
        x.teach(1, 1, true);
        x.need(1, 0);
        return x;
    }

    @Says("A person is BARRED from trying a course for the first of these reasons")
    void theFirstOfSeveralReasons() {
        TrainingRows x = withAllReasons();
        due.is("2 and 3", 2, () -> x.barred(1, 1));
        x.day(10);
        due.is("1, 2 and 3", 1, () -> x.barred(1, 1));
        due.is("1 and 2", 1, () -> x.barred(0, 1));
        x.teach(1, 1, false);
        due.is("1 and 3", 1, () -> x.barred(1, 1));
        TrainingRows y = withAllReasons();
        y.teach(1, 1, false);
        due.is("3 alone", 3, () -> y.barred(1, 1));
        y.pause(0);
        due.is("none", 0, () -> y.barred(1, 1));
    }

    @Says("1 they do not hold a course that it needs")
    void everyNeedIsHeldUpToItsLapse() {
        TrainingRows x = Setups.withHolders(0b10, 0b10);
        x.course(10, 50, 0);
        x.course(20, 50, 0);
        x.found(1, 3);
        due.is("no needs", 0, () -> x.barred(0, 2));
        x.need(2, 0);
        due.is("the one not held", 1, () -> x.barred(0, 2));
        due.is("the one held", 0, () -> x.barred(1, 2));
        x.need(2, 1);
        due.is("both held", 0, () -> x.barred(1, 2));
        x.need(2, 3);
        x.day(9);
        due.is("on the last day", 0, () -> x.barred(1, 2));
        x.day(10);
        due.is("on the lapse of two of three", 1, () -> x.barred(1, 2));
    }

    @Says("1 they do not hold a course that it needs")
    void anyOfFifteenNeedsBars() {
        for (int missing = 0; missing < 15; missing++) {
            TrainingRows x = Setups.withCourses(16);
            for (int course = 0; course < 15; course++) {
                x.need(15, course);
                if (course != missing) {
                    x.found(7, course);
                }
            }
            due.is("without course " + missing, 1, () -> x.barred(7, 15));
            x.found(7, missing);
            due.is("with all of them", 0, () -> x.barred(7, 15));
        }
    }

    @Says("2 they are told as an instructor of it")
    void toldAsInstructorAlsoWhenLapsed() {
        TrainingRows x = Setups.withHolders(0b11, 0b10);
        due.is("told", 2, () -> x.barred(0, 0));
        due.is("not told", 0, () -> x.barred(1, 0));
        due.is("told of another course", 2, () -> x.barred(1, 1));
        x.day(10);
        due.is("told and lapsed", 2, () -> x.barred(0, 0));
        x.teach(0, 0, false);
        due.is("not any more", 0, () -> x.barred(0, 0));
    }

    @Says("3 the latest three tries of it or more failed")
    void twoThreeAndMoreFails() {
        for (int fails = 0; fails < 3; fails++) {
            TrainingRows x = Setups.withFails(fails);
            due.is(fails + " fails", 0, () -> x.barred(1, 0));
            due.is("the next try is taken", fails + 1, () -> x.result(1, 0, 0));
        }
        TrainingRows x = Setups.withFails(3);
        due.is("three fails", 3, () -> x.barred(1, 0));
        due.refuses("no fourth try", STATE, () -> x.result(1, 0, 100));
        x.pause(0);
        x.result(1, 0, 0);
        x.result(1, 0, 0);
        x.pause(1);
        due.is("five fails", 3, () -> x.barred(1, 0));
        due.is("another person is not barred", 0, () -> x.barred(2, 0));
    }

    @Says("(since the latest pass, or all of them)")
    void failsSinceTheLatestPass() {
        TrainingRows x = Setups.withFails(2);
        x.result(1, 0, 50);
        x.result(1, 0, 0);
        due.is("two, a pass, one", 0, () -> x.barred(1, 0));
        x.result(1, 0, 0);
        due.is("two, a pass, two", 0, () -> x.barred(1, 0));
        x.result(1, 0, 0);
        due.is("two, a pass, three", 3, () -> x.barred(1, 0));
    }

    @Says("and the PAUSE (0 .. 1,000 days")
    void theLeastAndTheGreatestPause() {
        TrainingRows x = Setups.withFails(3);
        due.refusesStep("-1", RANGE, () -> x.pause(-1));
        due.refusesStep("the least int", RANGE, () -> x.pause(Integer.MIN_VALUE));
        due.refusesStep("1,001", RANGE, () -> x.pause(1001));
        due.refusesStep("the greatest int", RANGE, () -> x.pause(Integer.MAX_VALUE));
        due.is("the pause before stands", 3, () -> x.barred(1, 0));
        due.isDone("0", () -> x.pause(0));
        due.is("no pause", 0, () -> x.barred(1, 0));
        due.isDone("1,000", () -> x.pause(1000));
        x.day(999);
        due.is("day 999", 3, () -> x.barred(1, 0));
        x.day(1000);
        due.is("day 1,000", 0, () -> x.barred(1, 0));
    }

    @Says("30 at first)")
    void thePauseIs30AtFirst() {
        TrainingRows x = Setups.withFails(3);
        x.day(29);
        due.is("day 29", 3, () -> x.barred(1, 0));
        x.day(30);
        due.is("day 30", 0, () -> x.barred(1, 0));
    }

    @Says("has not gone by since the latest one (the day less its day is below the pause)")
    void thePauseRunsFromTheLatestTry() {
        TrainingRows x = Setups.withFails(1);
        x.pause(1);
        x.day(3);
        x.result(1, 0, 0);
        x.day(7);
        x.result(1, 0, 0);
        due.is("a pause of 1, on its day", 3, () -> x.barred(1, 0));
        x.day(8);
        due.is("a pause of 1, the day behind", 0, () -> x.barred(1, 0));
        x.pause(5);
        due.is("a pause of 5, one day gone", 3, () -> x.barred(1, 0));
        x.day(11);
        due.is("four days gone", 3, () -> x.barred(1, 0));
        x.day(12);
        due.is("five days gone", 0, () -> x.barred(1, 0));
        x.result(1, 0, 0);
        due.is("a fourth fail begins it anew", 3, () -> x.barred(1, 0));
        x.day(16);
        due.is("four days gone again", 3, () -> x.barred(1, 0));
        x.day(17);
        due.is("five days gone again", 0, () -> x.barred(1, 0));
    }

    @Says("A PLAN puts persons to SEATS 0, 1, .. (at most 12), each of a course")
    void twelveSeatsEachOfItsCourse() {
        int[] sets = new int[12];
        long reversed = 0;
        int[] persons = new int[12];
        for (int course = 0; course < 12; course++) {
            sets[course] = 1 << course + 8;
            reversed |= (long) course << 4 * (11 - course);
            persons[11 - course] = course + 8;
        }
        long told = reversed;
        TrainingRows x = Setups.withHolders(sets);
        due.is("12 seats", 12, () -> x.plan(told, 12, 10));
        due.seats("each of its course", x, persons);
        due.refuses("no seat 12", UNKNOWN, () -> x.seated(12));
        due.refuses("13 seats", RANGE, () -> x.plan(told, 13, 10));
    }

    @Says("on a seat at most one person, who holds its course on the present day")
    void seatsForThoseWhoHoldOnly() {
        TrainingRows x = Setups.withHolders(0b10);
        x.result(2, 0, 0);
        due.is("all who hold", 2, () -> x.plan(0L, 12, 2100));
        due.seats("all who hold", x, 1, 2, -1, -1, -1, -1, -1, -1, -1, -1, -1, -1);
        x.day(9);
        due.is("on the last day held", 2, () -> x.plan(0L, 2, 2100));
        x.day(10);
        due.is("on the lapse", 0, () -> x.plan(0L, 2, 2100));
        due.seats("on the lapse", x, -1, -1);
    }

    @Says("and whose lapse, as of it, is at most so many days behind it")
    void lapsesAtAndAboveTheDays() {
        TrainingRows x = new TrainingRows();
        x.course(2000, 0, 50);
        x.found(4, 0);
        due.is("1,999 days", 0, () -> x.plan(0L, 1, 1999));
        due.is("2,000 days", 1, () -> x.plan(0L, 1, 2000));
        x.use(4, 0);
        due.is("put off, 2,000 days", 0, () -> x.plan(0L, 1, 2000));
        due.is("put off, 2,001 days", 1, () -> x.plan(0L, 1, 2001));
        x.day(2000);
        due.is("the last day, 0 days", 0, () -> x.plan(0L, 1, 0));
        due.is("the last day, 1 day", 1, () -> x.plan(0L, 1, 1));
    }

    @Says("a person on one seat at most")
    void onePersonForManySeats() {
        TrainingRows x = Setups.withHolders(0b1000, 0b1000);
        due.is("two courses", 1, () -> x.plan(0x10L, 2, 10));
        due.seats("two courses", x, 3, -1);
        due.is("12 seats", 1, () -> x.plan(0x101010101010L, 12, 10));
        due.seats("12 seats", x, 3, -1, -1, -1, -1, -1, -1, -1, -1, -1, -1, -1);
    }

    @Says("As many as can be")
    void allTwelveGiveWay() {
        int[] sets = new int[12];
        int[] persons = new int[12];
        long told = 0;
        for (int course = 0; course < 11; course++) {
            sets[course] = 0b11 << course;
            persons[course] = course + 1;
            told |= (long) course << 4 * course;
        }
        sets[11] = 1;
        persons[11] = 0;
        long courses = told | 11L << 44;
        TrainingRows x = Setups.withHolders(sets);
        due.is("a chain through 12 seats", 12, () -> x.plan(courses, 12, 10));
        due.seats("a chain through 12 seats", x, persons);
        due.is("without its end", 11, () -> x.plan(courses, 11, 10));
        due.seats("without its end", x, 0, 1, 2, 3, 4, 5, 6, 7, 8, 9, 10);
    }

    @Says("As many as can be")
    void allTwelveGiveWayOutOfOrder() {
        TrainingRows x = Setups.withHolders(
                1 << 3 | 1 << 4, 1 << 0 | 1 << 8, 1 << 1 | 1 << 7, 1 << 1 | 1 << 10,
                1 << 0 | 1 << 7, 1 << 2 | 1 << 9, 1 << 6 | 1 << 10, 1 << 5 | 1 << 9,
                1 << 2 | 1 << 3, 1 << 6 | 1 << 11, 1 << 5 | 1 << 8, 1 << 11);
        due.is("the one plan for all", 12, () -> x.plan(0xBA9876543210L, 12, 10));
        due.seats("the one plan for all", x, 4, 8, 7, 1, 0, 2, 10, 9, 3, 6, 5, 11);
    }

    @Says("As many as can be")
    void fewerThanTheSeats() {
        TrainingRows x = Setups.withHolders(0b11, 0b11, 0b11);
        due.is("three seats for two", 2, () -> x.plan(0x210L, 3, 10));
        due.seats("three seats for two", x, 0, 1, -1);
        TrainingRows none = Setups.withCourses(3);
        due.is("none holds", 0, () -> none.plan(0x210L, 3, 2100));
        due.seats("none holds", none, -1, -1, -1);
    }

    @Says("seat 0 has the lowest person possible (none only when none is possible with as many),"
            + " then seat 1, and so on")
    void theFirstPlanBySeats() {
        TrainingRows all = Setups.withAllPersons(10);
        due.is("the lowest of 20", 12, () -> all.plan(0L, 12, 10));
        due.seats("the lowest of 20", all, 0, 1, 2, 3, 4, 5, 6, 7, 8, 9, 10, 11);

        TrainingRows gives = Setups.withHolders(0b011, 0b001);
        due.is("seat 0 gives way for one more", 2, () -> gives.plan(0x10L, 2, 10));
        due.seats("seat 0 gives way for one more", gives, 1, 0);

        TrainingRows keeps = Setups.withHolders(0b011, 0b001, 0b010);
        due.is("seat 0 keeps the lowest", 2, () -> keeps.plan(0x210L, 3, 10));
        due.seats("seat 0 keeps the lowest", keeps, 0, -1, 1);

        TrainingRows lower = Setups.withHolders(0b110, 0b011);
        due.is("seat 1 has the lowest then", 2, () -> lower.plan(0x10L, 2, 10));
        due.seats("seat 1 has the lowest then", lower, 1, 0);

        TrainingRows takes = Setups.withHolders(0b011, 0b101, 0b100, 0b010);
        due.is("seat 1 takes the person of seat 2", 3, () -> takes.plan(0x3210L, 4, 10));
        due.seats("seat 1 takes the person of seat 2", takes, 0, 2, -1, 1);

        TrainingRows freed = Setups.withHolders(0b001001, 0b010010, 0b101100, 0b000011, 0b000100);
        due.is("seat 2 takes a person who came free", 5, () -> freed.plan(0x43210L, 5, 10));
        due.seats("seat 2 takes a person who came free", freed, 0, 4, 3, 1, 2);

        TrainingRows last = Setups.withHolders(1 << 19 | 1 << 18, 1 << 18);
        due.is("the highest persons", 2, () -> last.plan(0x10L, 2, 10));
        due.seats("the highest persons", last, 19, 18);
    }

    @Says("(none only when none is possible with as many)")
    void emptySeatsAmongFullOnes() {
        TrainingRows x = Setups.withHolders(0b001, 0b100);
        x.course(10, 0, 0);
        due.is("a seat of a course without holders", 2, () -> x.plan(0x0102L, 4, 10));
        due.seats("a seat of a course without holders", x, -1, 0, 2, -1);

        TrainingRows behind = Setups.withHolders(0b11, 0b01, 0b10);
        behind.course(10, 0, 0);
        due.is("the seats behind it are as without it", 2, () -> behind.plan(0x2103L, 4, 10));
        due.seats("the seats behind it are as without it", behind, -1, 0, -1, 1);
    }
}
