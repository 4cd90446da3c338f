import java.time.LocalDate;

/** Promises 23 and 24: dayNumber, dateOf; every date, by the calendar of the Java library. */
public final class DatesTest {
    private static final Checks checks = new Checks();

    public static void main(String[] args) {
        everyDate();
        wrongDates();
        wrongNumbers();
        checks.end("DatesTest");
    }

    private static void everyDate() {
        SentenceRules rules = new SentenceRules();
        LocalDate date = LocalDate.of(1900, 1, 1);
        for (int number = 0; number <= 73048; number++) {
            if (number % 200 == 0) {
                rules = new SentenceRules();
            }
            int year = date.getYear();
            int month = date.getMonthValue();
            int day = date.getDayOfMonth();
            checks.due("dayNumber of " + date, rules.dayNumber(year, month, day), number);
            checks.due("dateOf(" + number + ")", rules.dateOf(number), 10000 * year + 100 * month + day);
            date = date.plusDays(1);
        }
        checks.due("the day after the last is of", date.getYear(), 2100);
    }

    private static void wrongDates() {
        SentenceRules rules = new SentenceRules();
        for (int month = -1; month <= 14; month++) {
            for (int year : new int[] {1900, 2000, 2001, 2004}) {
                rules = new SentenceRules();
                int days = month < 1 || month > 12 ? 0 : LocalDate.of(year, month, 1).lengthOfMonth();
                for (int day = days + 1; day <= 33; day++) {
                    checks.due("dayNumber(" + year + ", " + month + ", " + day + ")",
                            rules.dayNumber(year, month, day), Checks.BAD_VALUE);
                }
                checks.due("dayNumber of day 0", rules.dayNumber(year, month, 0), Checks.BAD_VALUE);
                checks.due("dayNumber of day -1", rules.dayNumber(year, month, -1), Checks.BAD_VALUE);
            }
        }
        int[] wrong = {Integer.MIN_VALUE, -1, Integer.MAX_VALUE};
        for (int value : wrong) {
            checks.due("dayNumber(" + value + ", 1, 1)", rules.dayNumber(value, 1, 1), Checks.BAD_VALUE);
            checks.due("dayNumber(2000, " + value + ", 1)", rules.dayNumber(2000, value, 1), Checks.BAD_VALUE);
            checks.due("dayNumber(2000, 1, " + value + ")", rules.dayNumber(2000, 1, value), Checks.BAD_VALUE);
        }
        checks.due("dayNumber(1899, 12, 31)", rules.dayNumber(1899, 12, 31), Checks.BAD_VALUE);
        checks.due("dayNumber(2100, 1, 1)", rules.dayNumber(2100, 1, 1), Checks.BAD_VALUE);
    }

    private static void wrongNumbers() {
        SentenceRules rules = new SentenceRules();
        checks.due("dateOf(-1)", rules.dateOf(-1), Checks.BAD_VALUE);
        checks.due("dateOf(73049)", rules.dateOf(73049), Checks.BAD_VALUE);
        checks.due("dateOf(min)", rules.dateOf(Integer.MIN_VALUE), Checks.BAD_VALUE);
        checks.due("dateOf(max)", rules.dateOf(Integer.MAX_VALUE), Checks.BAD_VALUE);
    }
}
