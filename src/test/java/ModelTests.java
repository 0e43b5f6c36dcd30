import java.util.ArrayList;
import java.util.HashMap;
import java.util.List;
import java.util.Map;
import java.util.Random;

/** Runs of calls on the class beside a slow model that keeps every event and searches them all. */
public final class ModelTests {
    private static final int RUNS = 1500;
    private static final int PLAN_RUNS = 1500;
    private static final int CALLS = 512;

    private final Due due = new Due();

    public static void main(String[] args) {
        ModelTests tests = new ModelTests();
        for (int run = 0; run < RUNS && tests.due.wrong() == 0; run++) {
            tests.run(run);
        }
        for (int run = 0; run < PLAN_RUNS && tests.due.wrong() == 0; run++) {
            tests.runOfPlans(run);
        }
        tests.due.end();
    }

    private void run(int number) {
        Caller caller = new Caller(new Random(77000L + number));
        StringBuilder told = new StringBuilder();
        for (int i = 0; i < CALLS && due.wrong() == 0; i++) {
            String call = caller.next(i);
            told.append("  ").append(call).append(" -> ").append(caller.want).append('\n');
            due.same("run " + number + ", call " + i + ", " + call, caller.want, caller.got);
        }
        if (due.wrong() != 0) {
            System.out.println(told);
        }
    }

    /** Sixteen courses with few holders each, so that seats have to give way to one another. */
    private void runOfPlans(int number) {
        Random random = new Random(99000L + number);
        TrainingRows rows = new TrainingRows();
        Model model = new Model();
        int persons = 4 + random.nextInt(11);
        for (int course = 0; course < 16; course++) {
            addCourseWithHolders(rows, model, course, random, persons);
        }
        for (int i = 0; i < 12; i++) {
            long seatCourses = random.nextLong();
            int seats = 4 + random.nextInt(9);
            String what = "run of plans " + number + ", plan " + Long.toHexString(seatCourses);
            String want = Due.answerOf(() -> model.plan(seatCourses, seats, 2100));
            due.is(what + " of " + seats, want, () -> rows.plan(seatCourses, seats, 2100));
            for (int seat = 0; seat < seats; seat++) {
                int place = seat;
                due.is(what + ", seat " + seat, model.seated(seat), () -> rows.seated(place));
            }
        }
    }

    private static void addCourseWithHolders(
            TrainingRows rows, Model model, int course, Random random, int persons) {
        int first = random.nextInt(persons);
        rows.course(100, 0, 0);
        rows.ratio(course, 10);
        rows.found(first, course);
        rows.teach(first, course, true);
        model.course(100, 0, 0);
        model.found(first, course);
        int more = random.nextInt(3);
        for (int i = 0; i < more; i++) {
            int person = random.nextInt(persons);
            if (person != first) {
                rows.result(person, course, 0);
                model.tries.add(new Try(person, course, 0, true));
            }
        }
    }

    /** Chooses calls that are mostly sensible for the state, with wrong ones among them. */
    private static final class Caller {
        final Random random;
        final TrainingRows rows = new TrainingRows();
        final Model model = new Model();
        final int persons;
        final int courses;
        final int longestTerm;
        final int longestStep;
        final int wrongInHundred;
        String want;
        String got;

        Caller(Random random) {
            this.random = random;
            persons = 2 + random.nextInt(random.nextBoolean() ? 5 : 19);
            courses = 1 + random.nextInt(random.nextBoolean() ? 4 : 16);
            longestTerm = random.nextInt(4) == 0 ? 2000 : 3 + random.nextInt(30);
            longestStep = random.nextInt(6) == 0 ? 400 : 1 + random.nextInt(4);
            wrongInHundred = random.nextInt(3) * 5;
        }

        String next(int i) {
            if (i < courses) {
                return tellCourse();
            }
            if (i < 3 * courses) {
                return i % 2 == 0 ? tellFound(i / 2 % courses) : tellNeed();
            }
            switch (random.nextInt(34)) {
                case 0: return tellCourse();
                case 1: return tellNeed();
                case 2: return tellPause();
                case 3: case 4: case 5: return tellDay();
                case 6: return tellRatio();
                case 7: case 8: case 9: case 10: case 11: return tellResult();
                case 12: return tellFound(course());
                case 13: case 14: case 15: return tellTeach();
                case 16: case 17: case 18: case 19: return tellUse();
                case 20: case 21: return askHolds();
                case 22: return askLapse();
                case 23: return askFailed();
                case 24: case 25: return askBarred();
                case 26: return askRoom();
                case 27: case 28: return tellPlan();
                case 29: case 30: return askSeated();
                case 31: case 32: return askTomorrow();
                default: return askCount();
            }
        }

        private boolean wrong() {
            return random.nextInt(100) < wrongInHundred;
        }

        private int within(int least, int most) {
            if (wrong()) {
                int[] odd = {least - 1, most + 1, Integer.MIN_VALUE, Integer.MAX_VALUE, -1, 16, 20};
                return odd[random.nextInt(odd.length)];
            }
            return least + random.nextInt(most - least + 1);
        }

        private int person() {
            return within(0, persons - 1);
        }

        private int course() {
            return within(0, courses - 1);
        }

        private String tellCourse() {
            int term = within(1, longestTerm);
            int pass = within(0, 100);
            int cap = within(0, random.nextInt(5) == 0 ? 50 : 4);
            got = Due.answerOf(() -> rows.course(term, pass, cap));
            want = Due.answerOf(() -> model.course(term, pass, cap));
            return text("course", term, pass, cap);
        }

        private String tellNeed() {
            int course = course();
            int other = course();
            got = Due.answerOf(() -> rows.need(course, other));
            want = Due.answerOf(() -> model.need(course, other));
            return text("need", course, other);
        }

        private String tellPause() {
            int days = within(0, random.nextInt(4) == 0 ? 1000 : 6);
            got = Due.answerOf(() -> rows.pause(days));
            want = Due.answerOf(() -> model.pause(days));
            return text("pause", days);
        }

        private String tellDay() {
            int day = wrong() ? within(0, 9999) / 7 : model.today + random.nextInt(longestStep + 1);
            got = Due.answerOf(() -> rows.day(day));
            want = Due.answerOf(() -> model.day(day));
            return text("day", day);
        }

        private String tellRatio() {
            int course = course();
            int learners = within(0, 10);
            got = Due.answerOf(() -> rows.ratio(course, learners));
            want = Due.answerOf(() -> model.ratio(course, learners));
            return text("ratio", course, learners);
        }

        private String tellResult() {
            int person = person();
            int course = course();
            int mark = random.nextInt(3) == 0 ? passMarkNear(course) : within(0, 100);
            got = Due.answerOf(() -> rows.result(person, course, mark));
            want = Due.answerOf(() -> model.result(person, course, mark));
            return text("result", person, course, mark);
        }

        private int passMarkNear(int course) {
            boolean known = course >= 0 && course < model.courses.size();
            return known ? model.courses.get(course).pass - random.nextInt(2) : 50;
        }

        private String tellFound(int course) {
            int person = person();
            got = Due.answerOf(() -> rows.found(person, course));
            want = Due.answerOf(() -> model.found(person, course));
            return text("found", person, course);
        }

        private String tellTeach() {
            int course = course();
            boolean seek = random.nextBoolean() && course >= 0 && course < model.courses.size();
            int person = seek ? someHolder(course) : person();
            boolean on = random.nextInt(3) != 0;
            got = Due.answerOf(() -> rows.teach(person, course, on));
            want = Due.answerOf(() -> model.teach(person, course, on));
            return text("teach", person, course, on ? 1 : 0);
        }

        private int someHolder(int course) {
            int start = random.nextInt(20);
            for (int i = 0; i < 20; i++) {
                int person = (start + i) % 20;
                if (model.holdsOn(person, course, model.today)) {
                    return person;
                }
            }
            return start;
        }

        private String tellUse() {
            int course = course();
            boolean seek = random.nextBoolean() && course >= 0 && course < model.courses.size();
            int person = seek ? someHolder(course) : person();
            got = Due.answerOf(() -> rows.use(person, course));
            want = Due.answerOf(() -> model.use(person, course));
            return text("use", person, course);
        }

        private String askHolds() {
            int person = person();
            int course = course();
            int near = model.today - longestTerm + random.nextInt(2 * longestTerm + 1);
            int day = wrong() ? within(0, 9999) : Math.max(0, Math.min(9999, near));
            got = Due.answerOf(() -> rows.holds(person, course, day));
            want = Due.answerOf(() -> model.holds(person, course, day));
            return text("holds", person, course, day);
        }

        private String askLapse() {
            int person = person();
            int course = course();
            got = Due.answerOf(() -> rows.lapse(person, course));
            want = Due.answerOf(() -> model.lapse(person, course));
            return text("lapse", person, course);
        }

        private String askFailed() {
            int person = person();
            int course = course();
            got = Due.answerOf(() -> rows.failed(person, course));
            want = Due.answerOf(() -> model.failed(person, course));
            return text("failed", person, course);
        }

        private String askBarred() {
            int person = person();
            int course = course();
            got = Due.answerOf(() -> rows.barred(person, course));
            want = Due.answerOf(() -> model.barred(person, course));
            return text("barred", person, course);
        }

        private String askRoom() {
            int course = course();
            got = Due.answerOf(() -> rows.room(course));
            want = Due.answerOf(() -> model.room(course));
            return text("room", course);
        }

        private String tellPlan() {
            long seatCourses = 0;
            for (int seat = 0; seat < 16; seat++) {
                int course = wrong() && wrong() ? 15 : random.nextInt(courses);
                seatCourses |= (long) course << 4 * seat;
            }
            long told = seatCourses;
            int seats = within(0, 12);
            int days = within(0, random.nextBoolean() ? 2100 : longestTerm + 4);
            got = Due.answerOf(() -> rows.plan(told, seats, days));
            want = Due.answerOf(() -> model.plan(told, seats, days));
            return "plan(0x" + Long.toHexString(told) + ", " + seats + ", " + days + ")";
        }

        private String askSeated() {
            int seat = within(0, 11);
            got = Due.answerOf(() -> rows.seated(seat));
            want = Due.answerOf(() -> model.seated(seat));
            return text("seated", seat);
        }

        private String askTomorrow() {
            int course = course();
            int i = within(0, 2);
            got = Due.answerOf(() -> rows.tomorrow(course, i));
            want = Due.answerOf(() -> model.tomorrow(course, i));
            return text("tomorrow", course, i);
        }

        private String askCount() {
            int what = within(0, 3);
            got = Due.answerOf(() -> rows.count(what));
            want = Due.answerOf(() -> model.count(what));
            return text("count", what);
        }

        private static String text(String name, int... numbers) {
            StringBuilder text = new StringBuilder(name);
            String comma = "(";
            for (int number : numbers) {
                text.append(comma).append(number);
                comma = ", ";
            }
            return text.append(')').toString();
        }
    }

    private static final class Course {
        final int term;
        final int pass;
        final int cap;
        int ratio = 3;
        final List<Integer> needs = new ArrayList<>();
        final List<Integer> instructors = new ArrayList<>();

        Course(int term, int pass, int cap) {
            this.term = term;
            this.pass = pass;
            this.cap = cap;
        }
    }

    private record Try(int person, int course, int day, boolean passed) {}

    private record Use(int person, int course, int day, Try putOff) {}

    /** The document, word by word. */
    private static final class Model {
        final List<Course> courses = new ArrayList<>();
        final List<Try> tries = new ArrayList<>();
        final List<Use> uses = new ArrayList<>();
        int[] seats = {};
        int today = 0;
        int pause = 30;

        private void unknown(boolean so) {
            if (so) {
                throw new IllegalArgumentException();
            }
        }

        private void range(boolean so) {
            if (so) {
                throw new IndexOutOfBoundsException();
            }
        }

        private void state(boolean so) {
            if (so) {
                throw new IllegalStateException();
            }
        }

        private void noRoom(boolean so) {
            if (so) {
                throw new UnsupportedOperationException();
            }
        }

        private boolean noCourse(int course) {
            return course < 0 || course >= courses.size();
        }

        private boolean noPair(int person, int course) {
            return person < 0 || person > 19 || noCourse(course);
        }

        int course(int term, int pass, int cap) {
            range(term < 1 || term > 2000 || pass < 0 || pass > 100 || cap < 0 || cap > 50);
            noRoom(courses.size() == 16);
            courses.add(new Course(term, pass, cap));
            return courses.size() - 1;
        }

        void need(int course, int other) {
            unknown(noCourse(course) || noCourse(other));
            state(leadsTo(other, course) || courses.get(course).needs.contains(other));
            courses.get(course).needs.add(other);
        }

        private boolean leadsTo(int from, int to) {
            if (from == to) {
                return true;
            }
            for (int next : courses.get(from).needs) {
                if (leadsTo(next, to)) {
                    return true;
                }
            }
            return false;
        }

        void pause(int days) {
            range(days < 0 || days > 1000);
            pause = days;
        }

        void day(int d) {
            range(d < today || d > 9999);
            today = d;
        }

        void ratio(int course, int learners) {
            unknown(noCourse(course));
            range(learners < 0 || learners > 10);
            courses.get(course).ratio = learners;
        }

        int result(int person, int course, int mark) {
            unknown(noPair(person, course));
            range(mark < 0 || mark > 100);
            state(barred(person, course) != 0);
            noRoom(room(course) == 0 || tries.size() == 300);
            tries.add(new Try(person, course, today, mark >= courses.get(course).pass));
            return tries.size() - 1;
        }

        int found(int person, int course) {
            unknown(noPair(person, course));
            for (Try t : tries) {
                state(t.course == course);
            }
            noRoom(tries.size() == 300);
            tries.add(new Try(person, course, today, true));
            return tries.size() - 1;
        }

        void teach(int person, int course, boolean on) {
            unknown(noPair(person, course));
            List<Integer> told = courses.get(course).instructors;
            state(told.contains(person) == on);
            state(on && !holdsOn(person, course, today));
            if (on) {
                told.add(person);
            } else {
                told.remove(Integer.valueOf(person));
            }
        }

        int use(int person, int course) {
            unknown(noPair(person, course));
            state(!holdsOn(person, course, today));
            Try pass = latestPass(person, course, today);
            boolean counted = false;
            for (Use use : uses) {
                counted |= use.person == person && use.course == course && use.day == today;
            }
            if (!counted) {
                boolean more = putOff(pass, today) < courses.get(course).cap;
                uses.add(new Use(person, course, today, more ? pass : null));
            }
            return putOff(pass, today);
        }

        private Try latestPass(int person, int course, int day) {
            Try latest = null;
            for (Try t : tries) {
                if (t.person == person && t.course == course && t.passed && t.day <= day) {
                    latest = t;
                }
            }
            return latest;
        }

        private int putOff(Try pass, int day) {
            int days = 0;
            for (Use use : uses) {
                days += use.putOff == pass && use.day <= day ? 1 : 0;
            }
            return days;
        }

        private int lapseOf(Try pass, int day) {
            return pass.day + courses.get(pass.course).term + putOff(pass, day);
        }

        boolean holdsOn(int person, int course, int day) {
            Try pass = latestPass(person, course, day);
            return pass != null && day < lapseOf(pass, day);
        }

        boolean holds(int person, int course, int day) {
            unknown(noPair(person, course));
            range(day < 0 || day > 9999);
            return holdsOn(person, course, day);
        }

        int lapse(int person, int course) {
            unknown(noPair(person, course));
            Try pass = latestPass(person, course, today);
            return pass == null ? -1 : lapseOf(pass, today);
        }

        private List<Try> triesOf(int person, int course) {
            List<Try> found = new ArrayList<>();
            for (Try t : tries) {
                if (t.person == person && t.course == course) {
                    found.add(t);
                }
            }
            return found;
        }

        int failed(int person, int course) {
            unknown(noPair(person, course));
            List<Try> found = triesOf(person, course);
            int fails = 0;
            for (int i = found.size() - 1; i >= 0 && !found.get(i).passed; i--) {
                fails++;
            }
            return fails;
        }

        int barred(int person, int course) {
            unknown(noPair(person, course));
            for (int other : courses.get(course).needs) {
                if (!holdsOn(person, other, today)) {
                    return 1;
                }
            }
            if (courses.get(course).instructors.contains(person)) {
                return 2;
            }
            if (failed(person, course) < 3) {
                return 0;
            }
            List<Try> found = triesOf(person, course);
            return today - found.get(found.size() - 1).day < pause ? 3 : 0;
        }

        private int instructorsWhoCount(int course) {
            int instructors = 0;
            for (int person : courses.get(course).instructors) {
                instructors += holdsOn(person, course, today) ? 1 : 0;
            }
            return instructors;
        }

        int room(int course) {
            unknown(noCourse(course));
            int room = courses.get(course).ratio * instructorsWhoCount(course);
            for (Try t : tries) {
                room -= t.course == course && t.day == today ? 1 : 0;
            }
            return Math.max(room, 0);
        }

        int plan(long seatCourses, int number, int days) {
            for (int seat = 0; seat < Math.min(number, 12); seat++) {
                unknown(noCourse((int) (seatCourses >> 4 * seat) & 15));
            }
            range(number < 0 || number > 12 || days < 0 || days > 2100);
            int[] fits = new int[number];
            for (int seat = 0; seat < number; seat++) {
                int course = (int) (seatCourses >> 4 * seat) & 15;
                for (int person = 0; person < 20; person++) {
                    boolean may = holdsOn(person, course, today) && lapse(person, course) - today <= days;
                    fits[seat] |= may ? 1 << person : 0;
                }
            }
            return choose(fits);
        }

        private int choose(int[] fits) {
            Map<Long, Integer> known = new HashMap<>();
            seats = new int[fits.length];
            int most = mostFrom(fits, 0, 0, known);
            int used = 0;
            int left = most;
            for (int seat = 0; seat < fits.length; seat++) {
                seats[seat] = -1;
                for (int person = 0; person < 20 && seats[seat] < 0; person++) {
                    int bit = 1 << person;
                    boolean free = (fits[seat] & ~used & bit) != 0;
                    if (free && 1 + mostFrom(fits, seat + 1, used | bit, known) == left) {
                        seats[seat] = person;
                        used |= bit;
                        left--;
                    }
                }
            }
            return most;
        }

        private int mostFrom(int[] fits, int seat, int used, Map<Long, Integer> known) {
            if (seat == fits.length) {
                return 0;
            }
            int later = 0;
            for (int i = seat; i < fits.length; i++) {
                later |= fits[i];
            }
            long key = (long) seat << 32 | used & later;
            Integer before = known.get(key);
            if (before != null) {
                return before;
            }
            int most = mostFrom(fits, seat + 1, used, known);
            for (int person = 0; person < 20 && most < fits.length - seat; person++) {
                int bit = 1 << person;
                if ((fits[seat] & ~used & bit) != 0) {
                    most = Math.max(most, 1 + mostFrom(fits, seat + 1, used | bit, known));
                }
            }
            known.put(key, most);
            return most;
        }

        int seated(int seat) {
            unknown(seat < 0 || seat >= seats.length);
            return seats[seat];
        }

        int tomorrow(int course, int i) {
            unknown(noCourse(course));
            range(i < 0);
            List<Integer> found = new ArrayList<>();
            for (int person = 0; person < 20; person++) {
                if (holdsOn(person, course, today) && lapse(person, course) == today + 1) {
                    found.add(person);
                }
            }
            return i < found.size() ? found.get(i) : -1;
        }

        int count(int what) {
            unknown(what < 0 || what > 3);
            int passes = 0;
            for (Try t : tries) {
                passes += t.passed ? 1 : 0;
            }
            int pairs = 0;
            for (int course = 0; course < courses.size(); course++) {
                pairs += instructorsWhoCount(course);
            }
            return new int[] {courses.size(), tries.size(), passes, pairs}[what];
        }
    }
}
