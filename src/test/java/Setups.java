/** Objects in states that many tests start from. */
final class Setups {
    /** Numbers that fit no kind of thing, and some that would if bits of them were lost. */
    static final int[] NEVER_KNOWN = {
        Integer.MIN_VALUE, Integer.MIN_VALUE + 1, -65536, -256, -32, -16, -2, -1,
        20, 21, 32, 48, 64, 256, 65536, 1 << 28, Integer.MAX_VALUE,
    };

    private Setups() {}

    /** Course 0 (term 10, pass mark 50, the cap) with person 0 as its instructor since day 0. */
    static TrainingRows withInstructor(int cap) {
        TrainingRows x = new TrainingRows();
        x.course(10, 50, cap);
        x.found(0, 0);
        x.teach(0, 0, true);
        x.ratio(0, 10);
        return x;
    }

    /** So many courses of term 10, pass mark 50 and cap 2, without results. */
    static TrainingRows withCourses(int number) {
        TrainingRows x = new TrainingRows();
        for (int course = 0; course < number; course++) {
            x.course(10, 50, 2);
        }
        return x;
    }

    /** A course of term 10 for each set of persons (bits), all with passes of today. */
    static TrainingRows withHolders(int... sets) {
        TrainingRows x = new TrainingRows();
        for (int course = 0; course < sets.length; course++) {
            int first = Integer.numberOfTrailingZeros(sets[course]);
            x.course(10, 0, 0);
            x.ratio(course, 10);
            x.found(first, course);
            x.teach(first, course, true);
            for (int person = first + 1; person < 20; person++) {
                if ((sets[course] >> person & 1) != 0) {
                    x.result(person, course, 0);
                }
            }
        }
        return x;
    }

    /** Course 0 of the term with a pass of today for all 20 persons; 0 and 1 are instructors. */
    static TrainingRows withAllPersons(int term) {
        TrainingRows x = new TrainingRows();
        x.course(term, 0, 50);
        x.ratio(0, 10);
        x.found(0, 0);
        x.teach(0, 0, true);
        x.result(1, 0, 0);
        x.teach(1, 0, true);
        for (int person = 2; person < 20; person++) {
            x.result(person, 0, 0);
        }
        return x;
    }

    /** Person 1 has failed so often on the present day, with person 0 as the instructor. */
    static TrainingRows withFails(int fails) {
        TrainingRows x = new TrainingRows();
        x.course(2000, 50, 0);
        x.ratio(0, 10);
        x.found(0, 0);
        x.teach(0, 0, true);
        for (int i = 0; i < fails; i++) {
            x.result(1, 0, 0);
        }
        return x;
    }

    /**
     * Course 0 (pass mark 50) has so many results, the first pass of person 0 and fails of person
     * 1, up to ten on a day; course 1 has none, and there is no pause.
     */
    static TrainingRows withResults(int results) {
        TrainingRows x = new TrainingRows();
        x.pause(0);
        x.course(2000, 50, 0);
        x.course(2000, 50, 0);
        x.ratio(0, 10);
        x.found(0, 0);
        x.teach(0, 0, true);
        for (int i = 1; i < results; i++) {
            if (i % 10 == 0) {
                x.day(i / 10);
            }
            x.result(1, 0, 0);
        }
        return x;
    }
}
