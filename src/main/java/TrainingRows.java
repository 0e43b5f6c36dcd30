import java.util.Arrays;

/**
 * Training of crews: courses with needs, tries and passes, skills that lapse and are kept up by
 * uses, instructors with room for learners, and plans that put persons to seats.
 */
public final class TrainingRows {
    private static final int NONE = -1;
    private static final int MOST_PERSONS = 20;
    private static final int MOST_COURSES = 16;
    private static final int MOST_RESULTS = 300;
    private static final int MOST_SEATS = 12;
    private static final int PAIRS = MOST_PERSONS * MOST_COURSES;

    private static final int LAST_DAY = 9999;
    private static final int MOST_TERM = 2000;
    private static final int MOST_MARK = 100;
    private static final int MOST_CAP = 50;
    private static final int MOST_RATIO = 10;
    private static final int FIRST_RATIO = 3;
    private static final int MOST_PAUSE = 1000;
    private static final int FIRST_PAUSE = 30;
    private static final int MOST_PLAN_DAYS = 2100;
    private static final int FAILS_THAT_BAR = 3;

    private static final int SEAT_BITS = 4;
    private static final long SEAT_MASK = 15L;

    private static final int NOT_BARRED = 0;
    private static final int BARRED_BY_NEED = 1;
    private static final int BARRED_AS_INSTRUCTOR = 2;
    private static final int BARRED_BY_FAILS = 3;

    private static final int COUNT_COURSES = 0;
    private static final int COUNT_RESULTS = 1;
    private static final int COUNT_PASSES = 2;
    private static final int COUNT_INSTRUCTORS = 3;

    private final Courses courses;
    private final Records records;
    private final Seating seating;
    private int today;
    private int pauseDays;

    public TrainingRows() {
        courses = new Courses();
        records = new Records();
        seating = new Seating();
        today = 0;
        pauseDays = FIRST_PAUSE;
    }

    public int course(int term, int pass, int cap)
            throws IndexOutOfBoundsException, UnsupportedOperationException {
        requireRange(term, 1, MOST_TERM);
        requireRange(pass, 0, MOST_MARK);
        requireRange(cap, 0, MOST_CAP);
        if (courses.isFull()) {
            throw new UnsupportedOperationException("no room for one more course");
        }
        return courses.add(term, pass, cap);
    }

    public void need(int course, int other) throws IllegalArgumentException, IllegalStateException {
        requireCourse(course);
        requireCourse(other);
        if (courses.wouldNeedItself(course, other)) {
            throw new IllegalStateException("the course would need itself");
        }
        if (isIn(courses.needs[course], other)) {
            throw new IllegalStateException("the course needs that one already");
        }
        courses.addNeed(course, other);
    }

    public void pause(int days) throws IndexOutOfBoundsException {
        requireRange(days, 0, MOST_PAUSE);
        pauseDays = days;
    }

    public void day(int d) throws IndexOutOfBoundsException {
        requireRange(d, today, LAST_DAY);
        if (d != today) {
            courses.forgetResultsToday();
        }
        today = d;
    }

    public void ratio(int course, int learners)
            throws IllegalArgumentException, IndexOutOfBoundsException {
        requireCourse(course);
        requireRange(learners, 0, MOST_RATIO);
        courses.ratios[course] = learners;
    }

    public int result(int person, int course, int mark)
            throws IllegalArgumentException, IndexOutOfBoundsException, IllegalStateException,
                    UnsupportedOperationException {
        requirePair(person, course);
        requireRange(mark, 0, MOST_MARK);
        if (whyBarred(person, course) != NOT_BARRED) {
            throw new IllegalStateException("the person is barred");
        }
        if (roomNow(course) == 0) {
            throw new UnsupportedOperationException("the course has no room");
        }
        requireRoomForResult();
        return addResult(person, course, mark >= courses.passMarks[course]);
    }

    public int found(int person, int course)
            throws IllegalArgumentException, IllegalStateException, UnsupportedOperationException {
        requirePair(person, course);
        if (courses.started[course]) {
            throw new IllegalStateException("the course has a result");
        }
        requireRoomForResult();
        return addResult(person, course, true);
    }

    public void teach(int person, int course, boolean on)
            throws IllegalArgumentException, IllegalStateException {
        requirePair(person, course);
        if (isIn(courses.instructors[course], person) == on) {
            throw new IllegalStateException("it is so already");
        }
        if (on && !holdsNow(person, course)) {
            throw new IllegalStateException("the person does not hold the course");
        }
        courses.instructors[course] ^= 1 << person;
    }

    public int use(int person, int course) throws IllegalArgumentException, IllegalStateException {
        requirePair(person, course);
        if (!holdsNow(person, course)) {
            throw new IllegalStateException("the person does not hold the course");
        }
        return records.addUse(pairOf(person, course), today, courses.caps[course]);
    }

    public boolean holds(int person, int course, int day)
            throws IllegalArgumentException, IndexOutOfBoundsException {
        requirePair(person, course);
        requireRange(day, 0, LAST_DAY);
        // A pass that has lapsed by a day is never put off behind it, since only what is held is
        // used: so all its uses may count here, and the days of the uses need not be kept.
        return day < lapseOf(records.latestPassUpTo(pairOf(person, course), day), course);
    }

    public int lapse(int person, int course) throws IllegalArgumentException {
        requirePair(person, course);
        return lapseNow(person, course);
    }

    public int failed(int person, int course) throws IllegalArgumentException {
        requirePair(person, course);
        return records.fails[pairOf(person, course)];
    }

    public int barred(int person, int course) throws IllegalArgumentException {
        requirePair(person, course);
        return whyBarred(person, course);
    }

    public int room(int course) throws IllegalArgumentException {
        requireCourse(course);
        return roomNow(course);
    }

    public int plan(long courses, int seats, int days)
            throws IllegalArgumentException, IndexOutOfBoundsException {
        int told = Math.min(seats, MOST_SEATS);
        for (int seat = 0; seat < told; seat++) {
            requireCourse(courseOfSeat(courses, seat));
        }
        requireRange(seats, 0, MOST_SEATS);
        requireRange(days, 0, MOST_PLAN_DAYS);
        seating.clear(seats);
        for (int seat = 0; seat < told; seat++) {
            seating.fits[seat] = personsToRenew(courseOfSeat(courses, seat), days);
        }
        return seating.fill();
    }

    public int seated(int seat) throws IllegalArgumentException {
        if (seat < 0 || seat >= seating.seats) {
            throw new IllegalArgumentException("the latest plan has no such seat");
        }
        return seating.personOn[seat];
    }

    public int tomorrow(int course, int i)
            throws IllegalArgumentException, IndexOutOfBoundsException {
        requireCourse(course);
        if (i < 0) {
            throw new IndexOutOfBoundsException("a place in a row is 0 at least");
        }
        int before = 0;
        for (int person = 0; person < MOST_PERSONS; person++) {
            if (lapseNow(person, course) == today + 1) {
                if (before == i) {
                    return person;
                }
                before++;
            }
        }
        return NONE;
    }

    public int count(int what) throws IllegalArgumentException {
        switch (what) {
            case COUNT_COURSES:
                return courses.number;
            case COUNT_RESULTS:
                return records.results;
            case COUNT_PASSES:
                return records.passes;
            case COUNT_INSTRUCTORS:
                return allInstructorsNow();
            default:
                throw new IllegalArgumentException("no such count");
        }
    }

    private void requireCourse(int course) {
        if (course < 0 || course >= courses.number) {
            throw new IllegalArgumentException("no such course");
        }
    }

    private void requirePair(int person, int course) {
        if (person < 0 || person >= MOST_PERSONS) {
            throw new IllegalArgumentException("no such person");
        }
        requireCourse(course);
    }

    private static void requireRange(int number, int least, int most) {
        if (number < least || number > most) {
            throw new IndexOutOfBoundsException("a number is outside its range");
        }
    }

    private void requireRoomForResult() {
        if (records.isFull()) {
            throw new UnsupportedOperationException("no room for one more result");
        }
    }

    private static int pairOf(int person, int course) {
        return person * MOST_COURSES + course;
    }

    private static boolean isIn(int set, int member) {
        return (set >> member & 1) != 0;
    }

    private static int courseOfSeat(long seatCourses, int seat) {
        return (int) (seatCourses >>> SEAT_BITS * seat & SEAT_MASK);
    }

    private int addResult(int person, int course, boolean passed) {
        courses.noteResult(course);
        return records.addResult(pairOf(person, course), today, passed);
    }

    private int lapseNow(int person, int course) {
        return lapseOf(records.latestPass[pairOf(person, course)], course);
    }

    private int lapseOf(int pass, int course) {
        if (pass == NONE) {
            return NONE;
        }
        return records.days[pass] + courses.terms[course] + records.putOff[pass];
    }

    private boolean holdsNow(int person, int course) {
        return today < lapseNow(person, course);
    }

    private int whyBarred(int person, int course) {
        if (!holdsNeeds(person, course)) {
            return BARRED_BY_NEED;
        }
        if (isIn(courses.instructors[course], person)) {
            return BARRED_AS_INSTRUCTOR;
        }
        int pair = pairOf(person, course);
        boolean mustPause = records.fails[pair] >= FAILS_THAT_BAR;
        if (mustPause && today - records.latestTryDay[pair] < pauseDays) {
            return BARRED_BY_FAILS;
        }
        return NOT_BARRED;
    }

    private boolean holdsNeeds(int person, int course) {
        for (int other = 0; other < courses.number; other++) {
            if (isIn(courses.needs[course], other) && !holdsNow(person, other)) {
                return false;
            }
        }
        return true;
    }

    private int roomNow(int course) {
        int places = courses.ratios[course] * instructorsNow(course);
        return Math.max(0, places - courses.resultsToday[course]);
    }

    private int instructorsNow(int course) {
        int instructors = 0;
        for (int person = 0; person < MOST_PERSONS; person++) {
            if (isIn(courses.instructors[course], person) && holdsNow(person, course)) {
                instructors++;
            }
        }
        return instructors;
    }

    private int allInstructorsNow() {
        int pairs = 0;
        for (int course = 0; course < courses.number; course++) {
            pairs += instructorsNow(course);
        }
        return pairs;
    }

    private int personsToRenew(int course, int days) {
        int persons = 0;
        for (int person = 0; person < MOST_PERSONS; person++) {
            int left = lapseNow(person, course) - today;
            if (left > 0 && left <= days) {
                persons |= 1 << person;
            }
        }
        return persons;
    }

    /** The courses by number; sets of courses or persons are bits of an int. */
    private static final class Courses {
        final int[] terms = new int[MOST_COURSES];
        final int[] passMarks = new int[MOST_COURSES];
        final int[] caps = new int[MOST_COURSES];
        final int[] ratios = new int[MOST_COURSES];
        final int[] needs = new int[MOST_COURSES];
        /** What a course needs, also by way of others: kept so that a circle is seen at once. */
        final int[] needsByWay = new int[MOST_COURSES];
        final int[] instructors = new int[MOST_COURSES];
        final int[] resultsToday = new int[MOST_COURSES];
        final boolean[] started = new boolean[MOST_COURSES];
        int number;

        boolean isFull() {
            return number >= MOST_COURSES;
        }

        int add(int term, int passMark, int cap) {
            int course = number;
            terms[course] = term;
            passMarks[course] = passMark;
            caps[course] = cap;
            ratios[course] = FIRST_RATIO;
            number++;
            return course;
        }

        boolean wouldNeedItself(int course, int other) {
            return course == other || isIn(needsByWay[other], course);
        }

        void addNeed(int course, int other) {
            int added = needsByWay[other] | 1 << other;
            needs[course] |= 1 << other;
            for (int above = 0; above < number; above++) {
                if (above == course || isIn(needsByWay[above], course)) {
                    needsByWay[above] |= added;
                }
            }
        }

        void noteResult(int course) {
            started[course] = true;
            resultsToday[course]++;
        }

        void forgetResultsToday() {
            Arrays.fill(resultsToday, 0);
        }
    }

    /** Results by number, and what is known of each PAIR of a person and a course. */
    private static final class Records {
        final int[] days = new int[MOST_RESULTS];
        final int[] passBefore = new int[MOST_RESULTS];
        final int[] putOff = new int[MOST_RESULTS];
        final int[] latestPass = new int[PAIRS];
        final int[] latestTryDay = new int[PAIRS];
        final int[] fails = new int[PAIRS];
        final int[] usedDay = new int[PAIRS];
        int results;
        int passes;

        Records() {
            Arrays.fill(latestPass, NONE);
            Arrays.fill(usedDay, NONE);
        }

        boolean isFull() {
            return results >= MOST_RESULTS;
        }

        int addResult(int pair, int day, boolean passed) {
            int added = results;
            results++;
            days[added] = day;
            passBefore[added] = latestPass[pair];
            latestTryDay[pair] = day;
            if (passed) {
                passes++;
                latestPass[pair] = added;
                fails[pair] = 0;
            } else {
                fails[pair]++;
            }
            return added;
        }

        /** By how many days the latest pass is put off in all, this use among them. */
        int addUse(int pair, int day, int cap) {
            int pass = latestPass[pair];
            if (pass == NONE) {
                return 0;
            }
            if (usedDay[pair] != day && putOff[pass] < cap) {
                putOff[pass]++;
            }
            usedDay[pair] = day;
            return putOff[pass];
        }

        int latestPassUpTo(int pair, int day) {
            int pass = latestPass[pair];
            for (int steps = 0; steps < results && pass != NONE; steps++) {
                if (days[pass] <= day) {
                    return pass;
                }
                pass = passBefore[pass];
            }
            return NONE;
        }
    }

    /** The latest plan: persons put to seats by matching. */
    private static final class Seating {
        final int[] fits = new int[MOST_SEATS];
        final int[] personOn = new int[MOST_SEATS];
        final int[] seatOf = new int[MOST_PERSONS];
        final int[] queue = new int[MOST_SEATS];
        final int[] reachedFrom = new int[MOST_PERSONS];
        int seats;

        void clear(int newSeats) {
            seats = newSeats;
            Arrays.fill(personOn, NONE);
            Arrays.fill(seatOf, NONE);
        }

        /** Seats as many as can be, then makes it the first of such plans: how many are seated. */
        int fill() {
            int seatedPersons = 0;
            while (seatedPersons < seats && seatOneMore(0, 0)) {
                seatedPersons++;
            }
            int settled = 0;
            for (int seat = 0; seat < seats; seat++) {
                settled |= settle(seat, settled);
            }
            return seatedPersons;
        }

        /** Gives a seat its lowest person without losing one; the set of that person. */
        private int settle(int seat, int settled) {
            int open = fits[seat] & ~settled;
            for (int person = 0; person < MOST_PERSONS; person++) {
                if (isIn(open, person) && moveTo(seat, person, settled)) {
                    return 1 << person;
                }
            }
            return 0;
        }

        private boolean moveTo(int seat, int person, int settled) {
            int oldPerson = personOn[seat];
            int oldSeat = seatOf[person];
            if (oldPerson == person) {
                return true;
            }
            leave(seat, oldPerson);
            leave(oldSeat, person);
            sit(seat, person);
            // With at most one seat left, as many sit as before; with two, one more must be found.
            if (oldPerson == NONE || oldSeat == NONE) {
                return true;
            }
            if (seatOneMore(seat + 1, settled | 1 << person)) {
                return true;
            }
            sit(seat, oldPerson);
            sit(oldSeat, person);
            return false;
        }

        private void sit(int seat, int person) {
            personOn[seat] = person;
            seatOf[person] = seat;
        }

        private void leave(int seat, int person) {
            if (seat != NONE && person != NONE) {
                personOn[seat] = NONE;
                seatOf[person] = NONE;
            }
        }

        /**
         * Looks, in widening rings from the empty seats, for a chain of moves to a free person;
         * the seats before the first one and the settled persons stay as they are.
         */
        private boolean seatOneMore(int firstSeat, int settled) {
            int seen = settled;
            int queued = queueEmptySeats(firstSeat);
            for (int next = 0; next < queued && next < MOST_SEATS; next++) {
                int seat = queue[next];
                for (int person = 0; person < MOST_PERSONS; person++) {
                    if (!isIn(fits[seat] & ~seen, person)) {
                        continue;
                    }
                    seen |= 1 << person;
                    reachedFrom[person] = seat;
                    if (seatOf[person] == NONE) {
                        moveAlong(person);
                        return true;
                    }
                    if (queued < MOST_SEATS) {
                        queue[queued] = seatOf[person];
                        queued++;
                    }
                }
            }
            return false;
        }

        private int queueEmptySeats(int firstSeat) {
            int queued = 0;
            for (int seat = firstSeat; seat < seats; seat++) {
                if (personOn[seat] == NONE) {
                    queue[queued] = seat;
                    queued++;
                }
            }
            return queued;
        }

        /** Moves each person of the chain on; it ends at the seat that was empty. */
        private void moveAlong(int freePerson) {
            int person = freePerson;
            for (int moves = 0; moves < MOST_SEATS && person != NONE; moves++) {
                int seat = reachedFrom[person];
                int moved = personOn[seat];
                sit(seat, person);
                person = moved;
            }
        }
    }
}
