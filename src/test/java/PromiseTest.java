/**
 * For each promise of the document: ordinary inputs, the edges that it names, and wrong inputs.
 * Prints every answer that is not due, and ends with exit code 1 if there was one.
 */
public final class PromiseTest {
    private static final String INDEX = "throws.IndexOutOfBoundsException";
    private static final String ARGUMENT = "throws.IllegalArgumentException";
    private static final String STATE = "throws.IllegalStateException";
    private static final String UNSUPPORTED = "throws.UnsupportedOperationException";
    private static final String NO_ELEMENT = "throws.NoSuchElementException";
    private static final String ARITHMETIC = "throws.ArithmeticException";
    private static final int[] WRONG_INDEXES = {-1, Integer.MIN_VALUE, Integer.MAX_VALUE};

    private static int wrong = 0;
    private static String promise = "";

    private interface Call {
        Object answer();
    }

    private static String answerOf(Call call) {
        try {
            return String.valueOf(call.answer());
        } catch (RuntimeException e) {
            return "throws." + e.getClass().getSimpleName();
        }
    }

    private static void due(String want, Call call) {
        String got = answerOf(call);
        if (!got.equals(want)) {
            wrong++;
            StackTraceElement from = new Throwable().getStackTrace()[1];
            if (from.getMethodName().equals("due")) {
                from = new Throwable().getStackTrace()[2];
            }
            System.out.println(promise + ", line " + from.getLineNumber() + ": answered " + got + ", due is " + want);
        }
    }

    private static void due(long want, Call call) {
        due(String.valueOf(want), call);
    }

    /** A shop whose resin 0 needs no drying, with a mould of 4 cavities, 10 g a part, 8 g sprue, 3 shots an hour. */
    private static MouldDesk shop() {
        MouldDesk x = new MouldDesk();
        x.addResin(0);
        x.addMould(4, 10, 8, 200, 1200);
        x.addMachine(300);
        x.mount(0, 0);
        return x;
    }

    /** The shop of above that runs order 0, with resin enough. */
    private static MouldDesk running(int parts, int share) {
        MouldDesk x = shop();
        x.fill(0, 99999);
        x.order(0, 0, parts, share);
        x.run(0, 0);
        return x;
    }

    private static void newObject() {
        MouldDesk x = new MouldDesk();
        due(0, () -> x.lots());
        due(0, () -> x.hours());
        due(INDEX, () -> x.regrind(0));
        due(INDEX, () -> x.dry(0));
        due(INDEX, () -> x.hoursToDry(0));
        due(INDEX, () -> x.nextOpen(0, 0));
        due(INDEX, () -> x.mount(0, 0));
        due(INDEX, () -> x.lacks(0));
        due(ARITHMETIC, () -> x.regrindShare());
        due(ARITHMETIC, () -> x.meanParts());
        MouldDesk used = running(10, 0);
        used.pass(1);
        MouldDesk fresh = new MouldDesk();
        due(0, () -> fresh.hours());
        due(0, () -> fresh.addResin(0));
        due(0, () -> fresh.addMould(1, 1, 0, 1, 60));
        due(0, () -> fresh.addMachine(1));
        due(0, () -> fresh.order(0, 0, 1, 0));
    }

    private static void addResin() {
        MouldDesk x = new MouldDesk();
        due(ARGUMENT, () -> x.addResin(-1));
        due(ARGUMENT, () -> x.addResin(10));
        due(ARGUMENT, () -> x.addResin(Integer.MIN_VALUE));
        due(ARGUMENT, () -> x.addResin(Integer.MAX_VALUE));
        due(0, () -> x.addResin(0));
        due(1, () -> x.addResin(9));
        due(2, () -> x.addResin(4));
        due(INDEX, () -> x.regrind(3));
        due(3, () -> x.addResin(4));
        due(STATE, () -> x.addResin(4));
        due(ARGUMENT, () -> x.addResin(10));
        due(INDEX, () -> x.regrind(4));
        due(0, () -> x.regrind(3));
        x.fill(1, 5);
        due(9, () -> x.hoursToDry(0));
    }

    private static void fill() {
        MouldDesk x = new MouldDesk();
        due(INDEX, () -> x.fill(0, 0));
        x.addResin(0);
        for (int number : WRONG_INDEXES) {
            due(INDEX, () -> x.fill(number, 0));
        }
        due(ARGUMENT, () -> x.fill(0, 0));
        due(ARGUMENT, () -> x.fill(0, -1));
        due(ARGUMENT, () -> x.fill(0, 100000));
        due(0, () -> x.lots());
        due(1, () -> x.fill(0, 1));
        due(2, () -> x.fill(0, 99999));
        due(3, () -> x.fill(0, 7));
        due(STATE, () -> x.fill(0, 7));
        due(ARGUMENT, () -> x.fill(0, 0));
        due(INDEX, () -> x.fill(1, 7));
        due(3, () -> x.lots());
        due(100007, () -> x.dry(0));
        x.empty(0);
        due(3, () -> x.fill(0, 8));
        due(8, () -> x.empty(2));
    }

    private static void empty() {
        MouldDesk x = new MouldDesk();
        x.addResin(1);
        x.addResin(2);
        due(INDEX, () -> x.empty(0));
        x.fill(0, 11);
        x.fill(1, 22);
        x.fill(0, 33);
        due(INDEX, () -> x.empty(3));
        for (int index : WRONG_INDEXES) {
            due(INDEX, () -> x.empty(index));
        }
        due(22, () -> x.empty(1));
        due(2, () -> x.lots());
        due(1, () -> x.hoursToDry(1));
        due(INDEX, () -> x.empty(2));
        due(11, () -> x.empty(0));
        due(33, () -> x.empty(0));
        due(INDEX, () -> x.empty(0));
        due(0, () -> x.lots());
    }

    private static void lots() {
        MouldDesk x = running(1000, 0);
        due(1, () -> x.lots());
        x.fill(0, 48);
        x.empty(0);
        due(1, () -> x.lots());
        x.fill(0, 200);
        due(2, () -> x.lots());
        x.pass(1);
        // The first lot is used up by the first shot, and leaves when the hour has passed.
        due(1, () -> x.lots());
        due(104, () -> x.dry(0));
        due(104, () -> x.empty(0));
        due(0, () -> x.lots());
    }

    private static void emptyLotsLeaveInOneGo() {
        MouldDesk x = shop();
        x.addResin(5);
        x.fill(0, 48);
        x.fill(1, 99);
        x.fill(0, 48);
        x.order(0, 0, 8, 0);
        x.run(0, 0);
        due(8, () -> x.pass(1));
        due(1, () -> x.lots());
        due(4, () -> x.hoursToDry(0));
        due(99, () -> x.empty(0));
        MouldDesk z = running(4, 0);
        z.empty(0);
        z.fill(0, 49);
        due(4, () -> z.pass(1));
        due(1, () -> z.empty(0));
        MouldDesk y = running(12, 0);
        y.empty(0);
        y.fill(0, 48);
        y.fill(0, 48);
        y.fill(0, 48);
        due(12, () -> y.pass(1));
        due(0, () -> y.lots());
    }

    private static void hoursToDry() {
        MouldDesk x = new MouldDesk();
        x.addResin(2);
        x.addResin(0);
        x.fill(0, 5);
        due(2, () -> x.hoursToDry(0));
        due(INDEX, () -> x.hoursToDry(1));
        for (int index : WRONG_INDEXES) {
            due(INDEX, () -> x.hoursToDry(index));
        }
        x.pass(1);
        x.fill(0, 5);
        x.fill(1, 5);
        due(1, () -> x.hoursToDry(0));
        due(2, () -> x.hoursToDry(1));
        due(0, () -> x.hoursToDry(2));
        x.pass(1);
        due(0, () -> x.hoursToDry(0));
        due(1, () -> x.hoursToDry(1));
        x.pass(5);
        due(0, () -> x.hoursToDry(0));
    }

    private static void dry() {
        MouldDesk x = new MouldDesk();
        due(INDEX, () -> x.dry(0));
        x.addResin(1);
        x.addResin(0);
        due(0, () -> x.dry(0));
        x.fill(0, 5);
        x.fill(1, 7);
        due(0, () -> x.dry(0));
        due(7, () -> x.dry(1));
        x.pass(1);
        x.fill(0, 9);
        due(5, () -> x.dry(0));
        x.pass(1);
        due(14, () -> x.dry(0));
        due(7, () -> x.dry(1));
        due(INDEX, () -> x.dry(2));
        for (int number : WRONG_INDEXES) {
            due(INDEX, () -> x.dry(number));
        }
    }

    private static void regrind() {
        MouldDesk x = running(6, 0);
        due(0, () -> x.regrind(0));
        due(INDEX, () -> x.regrind(1));
        for (int number : WRONG_INDEXES) {
            due(INDEX, () -> x.regrind(number));
        }
        x.pass(1);
        // Two shots: two sprues, and the two parts that are more than the order lacks.
        due(2 * 8 + 2 * 10, () -> x.regrind(0));
        x.addResin(0);
        due(0, () -> x.regrind(1));
        x.order(0, 0, 4, 25);
        x.run(0, 1);
        x.pass(1);
        due(36 - 12 + 8, () -> x.regrind(0));
    }

    private static void addMould() {
        MouldDesk x = new MouldDesk();
        due(ARGUMENT, () -> x.addMould(0, 1, 0, 1, 60));
        due(ARGUMENT, () -> x.addMould(9, 1, 0, 1, 60));
        due(ARGUMENT, () -> x.addMould(Integer.MIN_VALUE, 1, 0, 1, 60));
        due(ARGUMENT, () -> x.addMould(Integer.MAX_VALUE, 1, 0, 1, 60));
        due(ARGUMENT, () -> x.addMould(1, 0, 0, 1, 60));
        due(ARGUMENT, () -> x.addMould(1, 201, 0, 1, 60));
        due(ARGUMENT, () -> x.addMould(1, 1, -1, 1, 60));
        due(ARGUMENT, () -> x.addMould(1, 1, 201, 1, 60));
        due(ARGUMENT, () -> x.addMould(1, 1, 0, 0, 60));
        due(ARGUMENT, () -> x.addMould(1, 1, 0, 1000, 60));
        due(ARGUMENT, () -> x.addMould(1, 1, 0, 1, 59));
        due(ARGUMENT, () -> x.addMould(1, 1, 0, 1, 3601));
        due(0, () -> x.addMould(1, 1, 0, 1, 60));
        due(1, () -> x.addMould(8, 200, 200, 999, 3600));
        due(2, () -> x.addMould(2, 1, 0, 1, 60));
        due(3, () -> x.addMould(3, 1, 0, 1, 60));
        due(INDEX, () -> x.nextOpen(4, 0));
        due(4, () -> x.addMould(4, 1, 0, 1, 60));
        due(STATE, () -> x.addMould(4, 1, 0, 1, 60));
        due(ARGUMENT, () -> x.addMould(9, 1, 0, 1, 60));
        due(INDEX, () -> x.nextOpen(5, 0));
        due(7, () -> x.block(1, 0));
        due(7, () -> x.nextOpen(1, 7));
        due(0, () -> x.nextOpen(0, 0));
        due(NO_ELEMENT, () -> x.nextOpen(0, 1));
    }

    private static void setLife() {
        MouldDesk x = running(5000, 0);
        due(INDEX, () -> x.setLife(1, 0, 0));
        due(INDEX, () -> x.setLife(0, 4, 0));
        for (int number : WRONG_INDEXES) {
            due(INDEX, () -> x.setLife(number, 0, 1));
            due(INDEX, () -> x.setLife(0, number, 1));
        }
        due(ARGUMENT, () -> x.setLife(0, 0, 0));
        due(ARGUMENT, () -> x.setLife(0, 0, -1));
        due(ARGUMENT, () -> x.setLife(0, 0, 10000));
        due(0, () -> x.setLife(0, 0, 9999));
        due(0, () -> x.setLife(0, 1, 1));
        due(12 - 2, () -> x.pass(1));
        due(1, () -> x.setLife(0, 1, 9999));
        due(STATE, () -> x.block(0, 1));
        due(3, () -> x.setLife(0, 0, 4));
        due(0, () -> x.nextOpen(0, 0));
        due(3, () -> x.setLife(0, 0, 3));
        due(2, () -> x.nextOpen(0, 0));
        due(3, () -> x.setLife(0, 2, 2));
        due(3, () -> x.nextOpen(0, 0));
        due(3, () -> x.setLife(0, 3, 5));
        due(2, () -> x.pass(1));
        due(5, () -> x.setLife(0, 3, 9));
        due(NO_ELEMENT, () -> x.nextOpen(0, 0));
    }

    private static void firstLife() {
        MouldDesk x = new MouldDesk();
        x.addResin(0);
        x.addMould(1, 1, 0, 1, 60);
        x.addMachine(1);
        x.mount(0, 0);
        for (int order = 0; order < 2; order++) {
            x.order(0, 0, 5000, 0);
            x.run(0, order);
            x.fill(0, 5000);
            for (int day = 0; day < 3; day++) {
                x.pass(24);
            }
            x.pass(12);
        }
        due(0, () -> x.lacks(0));
        due(1, () -> x.lacks(1));
        due(4999, () -> x.shots(1));
        due(9999, () -> x.setLife(0, 0, 9999));
        due(NO_ELEMENT, () -> x.nextOpen(0, 0));
        due(NO_ELEMENT, () -> x.hoursNeeded(1));
        due(0, () -> x.hoursNeeded(0));
    }

    private static void block() {
        MouldDesk x = shop();
        due(INDEX, () -> x.block(1, 0));
        due(INDEX, () -> x.block(0, 4));
        for (int number : WRONG_INDEXES) {
            due(INDEX, () -> x.block(number, 0));
            due(INDEX, () -> x.block(0, number));
        }
        due(3, () -> x.block(0, 3));
        due(STATE, () -> x.block(0, 3));
        due(2, () -> x.block(0, 0));
        due(1, () -> x.block(0, 1));
        due(0, () -> x.block(0, 2));
        due(STATE, () -> x.block(0, 2));
    }

    private static void repair() {
        MouldDesk x = running(5000, 0);
        x.addMould(1, 1, 0, 1, 60);
        due(INDEX, () -> x.repair(2, 0));
        due(INDEX, () -> x.repair(0, 4));
        for (int number : WRONG_INDEXES) {
            due(INDEX, () -> x.repair(number, 0));
            due(INDEX, () -> x.repair(0, number));
        }
        x.setLife(0, 0, 2);
        x.pass(1);
        x.block(0, 1);
        due(STATE, () -> x.repair(0, 0));
        x.mount(0, 1);
        due(STATE, () -> x.repair(0, 2));
        due(3, () -> x.repair(0, 0));
        due(STATE, () -> x.repair(0, 0));
        due(4, () -> x.repair(0, 1));
        due(0, () -> x.setLife(0, 1, 9999));
        due(0, () -> x.nextOpen(0, 0));
        x.mount(0, 0);
        x.run(0, 0);
        // The life of cavity 0 is 2 still: it fails again after two parts.
        due(11, () -> x.pass(1));
        due(1, () -> x.nextOpen(0, 0));
        due(2, () -> x.setLife(0, 0, 5));
        due(3, () -> x.setLife(0, 1, 5));
        due(6, () -> x.setLife(0, 2, 9999));
    }

    private static void nextOpen() {
        MouldDesk x = shop();
        due(INDEX, () -> x.nextOpen(1, 0));
        for (int number : WRONG_INDEXES) {
            due(INDEX, () -> x.nextOpen(number, 0));
        }
        x.block(0, 0);
        x.block(0, 2);
        due(1, () -> x.nextOpen(0, 0));
        due(1, () -> x.nextOpen(0, 1));
        due(3, () -> x.nextOpen(0, 2));
        due(3, () -> x.nextOpen(0, 3));
        due(NO_ELEMENT, () -> x.nextOpen(0, 4));
        due(NO_ELEMENT, () -> x.nextOpen(0, Integer.MAX_VALUE));
        due(1, () -> x.nextOpen(0, -1));
        due(1, () -> x.nextOpen(0, Integer.MIN_VALUE));
        x.block(0, 3);
        due(NO_ELEMENT, () -> x.nextOpen(0, 2));
    }

    private static void addMachine() {
        MouldDesk x = new MouldDesk();
        due(ARGUMENT, () -> x.addMachine(0));
        due(ARGUMENT, () -> x.addMachine(1000));
        due(ARGUMENT, () -> x.addMachine(Integer.MIN_VALUE));
        due(0, () -> x.addMachine(1));
        due(1, () -> x.addMachine(999));
        x.addMould(1, 1, 0, 1, 60);
        due(INDEX, () -> x.mount(2, 0));
        due(2, () -> x.addMachine(5));
        due(STATE, () -> x.addMachine(5));
        due(ARGUMENT, () -> x.addMachine(1000));
        due(INDEX, () -> x.mount(3, 0));
        due(-1, () -> x.mount(2, 0));
    }

    private static void mount() {
        MouldDesk x = new MouldDesk();
        x.addMachine(100);
        x.addMachine(99);
        x.addMould(1, 10, 0, 100, 3600);
        x.addMould(2, 10, 0, 50, 3600);
        due(INDEX, () -> x.mount(2, 0));
        due(INDEX, () -> x.mount(0, 2));
        for (int number : WRONG_INDEXES) {
            due(INDEX, () -> x.mount(number, 0));
            due(INDEX, () -> x.mount(0, number));
        }
        due(UNSUPPORTED, () -> x.mount(1, 0));
        due(-1, () -> x.mount(0, 0));
        due(UNSUPPORTED, () -> x.mount(1, 0));
        due(STATE, () -> x.mount(0, 0));
        due(0, () -> x.mount(0, 1));
        due(STATE, () -> x.mount(1, 1));
        due(1, () -> x.mount(0, 0));
        due(-1, () -> x.mount(1, 1));
    }

    private static void mountTakesTheOrder() {
        MouldDesk x = running(100, 0);
        x.addMould(1, 10, 0, 1, 3600);
        due(0, () -> x.mount(0, 1));
        due(0, () -> x.pass(1));
        due(1, () -> x.mount(0, 0));
        // The order is gone from the machine even when its mould is back.
        due(0, () -> x.pass(1));
        due(3, () -> x.run(0, 0));
        due(12, () -> x.pass(1));
        // A mount that throws leaves the order.
        due(STATE, () -> x.mount(0, 0));
        due(12, () -> x.pass(1));
    }

    private static void run() {
        MouldDesk x = shop();
        x.addMachine(999);
        x.addMould(1, 1, 0, 1, 1000);
        x.order(0, 0, 4, 0);
        x.order(1, 0, 4, 0);
        due(INDEX, () -> x.run(2, 0));
        due(INDEX, () -> x.run(0, 2));
        for (int number : WRONG_INDEXES) {
            due(INDEX, () -> x.run(number, 0));
            due(INDEX, () -> x.run(0, number));
        }
        due(UNSUPPORTED, () -> x.run(1, 0));
        due(UNSUPPORTED, () -> x.run(1, 1));
        due(UNSUPPORTED, () -> x.run(0, 1));
        due(3, () -> x.run(0, 0));
        x.mount(1, 1);
        due(3, () -> x.run(1, 1));
        x.fill(0, 500);
        due(4 + 3, () -> x.pass(1));
        due(STATE, () -> x.run(0, 0));
        due(UNSUPPORTED, () -> x.run(1, 0));
        due(1, () -> x.pass(1));
        due(STATE, () -> x.run(1, 1));
    }

    private static void shotsOfAnHour() {
        int[] cycles = {60, 61, 1200, 1201, 1800, 1801, 3600};
        int[] shots = {60, 59, 3, 2, 2, 1, 1};
        for (int i = 0; i < cycles.length; i++) {
            int cycle = cycles[i];
            int most = shots[i];
            MouldDesk x = new MouldDesk();
            x.addResin(0);
            x.fill(0, 99999);
            x.addMachine(1);
            x.addMould(1, 1, 0, 1, cycle);
            x.mount(0, 0);
            x.order(0, 0, 5000, 0);
            due(most, () -> x.run(0, 0));
            due(most, () -> x.pass(1));
            due(most, () -> x.shots(0));
            due(2 * most, () -> x.pass(2));
        }
    }

    private static void runInPlaceOfAnother() {
        MouldDesk x = running(100, 0);
        x.order(0, 0, 7, 0);
        due(3, () -> x.run(0, 1));
        due(7, () -> x.pass(1));
        due(100, () -> x.lacks(0));
        due(0, () -> x.lacks(1));
        due(0, () -> x.pass(1));
        due(3, () -> x.run(0, 0));
        due(12, () -> x.pass(1));
    }

    private static void order() {
        MouldDesk x = shop();
        due(INDEX, () -> x.order(1, 0, 0, 0));
        due(INDEX, () -> x.order(0, 1, 1, 51));
        for (int number : WRONG_INDEXES) {
            due(INDEX, () -> x.order(number, 0, 1, 0));
            due(INDEX, () -> x.order(0, number, 1, 0));
        }
        due(ARGUMENT, () -> x.order(0, 0, 0, 0));
        due(ARGUMENT, () -> x.order(0, 0, 5001, 0));
        due(ARGUMENT, () -> x.order(0, 0, Integer.MAX_VALUE, 0));
        due(ARGUMENT, () -> x.order(0, 0, 1, -1));
        due(ARGUMENT, () -> x.order(0, 0, 1, 51));
        due(0, () -> x.order(0, 0, 1, 0));
        due(1, () -> x.order(0, 0, 5000, 50));
        for (int number = 2; number < 8; number++) {
            int next = number;
            due(INDEX, () -> x.lacks(next));
            due(next, () -> x.order(0, 0, 10 + next, 5));
        }
        due(STATE, () -> x.order(0, 0, 1, 0));
        due(ARGUMENT, () -> x.order(0, 0, 1, 51));
        due(INDEX, () -> x.order(0, 1, 1, 0));
        due(INDEX, () -> x.lacks(8));
        due(17, () -> x.lacks(7));
    }

    private static void lacks() {
        MouldDesk x = running(30, 0);
        due(30, () -> x.lacks(0));
        due(INDEX, () -> x.lacks(1));
        for (int number : WRONG_INDEXES) {
            due(INDEX, () -> x.lacks(number));
        }
        x.pass(1);
        due(18, () -> x.lacks(0));
        x.pass(2);
        due(0, () -> x.lacks(0));
        x.pass(1);
        due(0, () -> x.lacks(0));
    }

    private static void hoursNeeded() {
        MouldDesk x = running(25, 0);
        due(INDEX, () -> x.hoursNeeded(1));
        for (int number : WRONG_INDEXES) {
            due(INDEX, () -> x.hoursNeeded(number));
        }
        // 7 shots of 4 parts, 3 an hour.
        due(3, () -> x.hoursNeeded(0));
        x.order(0, 0, 24, 0);
        due(2, () -> x.hoursNeeded(1));
        x.order(0, 0, 1, 0);
        due(1, () -> x.hoursNeeded(2));
        x.setLife(0, 0, 1);
        due(3, () -> x.hoursNeeded(0));
        x.block(0, 0);
        x.block(0, 1);
        due(5, () -> x.hoursNeeded(0));
        x.block(0, 2);
        due(9, () -> x.hoursNeeded(0));
        x.block(0, 3);
        due(NO_ELEMENT, () -> x.hoursNeeded(0));
        MouldDesk y = running(4, 0);
        y.pass(1);
        for (int cavity = 0; cavity < 4; cavity++) {
            y.block(0, cavity);
        }
        due(0, () -> y.hoursNeeded(0));
    }

    private static void shots() {
        MouldDesk x = running(30, 0);
        due(0, () -> x.shots(0));
        due(INDEX, () -> x.shots(1));
        for (int number : WRONG_INDEXES) {
            due(INDEX, () -> x.shots(number));
        }
        x.pass(1);
        due(3, () -> x.shots(0));
        x.block(0, 0);
        x.pass(1);
        due(6, () -> x.shots(0));
        x.pass(3);
        due(9, () -> x.shots(0));
        x.order(0, 0, 5, 0);
        due(0, () -> x.shots(1));
    }

    private static void noShotWithoutResin() {
        MouldDesk x = shop();
        x.addResin(2);
        x.fill(0, 47);
        x.order(0, 0, 8, 0);
        x.run(0, 0);
        due(0, () -> x.pass(1));
        due(47, () -> x.dry(0));
        x.fill(1, 5000);
        due(0, () -> x.pass(1));
        x.fill(0, 49);
        due(8, () -> x.pass(1));
        due(1, () -> x.lots());
        due(16, () -> x.regrind(0));
        due(0, () -> x.regrind(1));
    }

    private static void noShotBeforeTheResinIsDry() {
        MouldDesk x = new MouldDesk();
        x.addResin(2);
        x.addMould(4, 10, 8, 200, 1200);
        x.addMachine(200);
        x.mount(0, 0);
        x.order(0, 0, 12, 0);
        x.run(0, 0);
        x.fill(0, 1000);
        due(0, () -> x.pass(2));
        due(1000, () -> x.dry(0));
        due(12, () -> x.pass(1));
    }

    private static void lotsAreUsedInTheirOrder() {
        MouldDesk x = shop();
        x.addResin(1);
        x.order(0, 1, 4, 0);
        x.run(0, 0);
        x.fill(1, 30);
        x.pass(1);
        x.fill(1, 500);
        x.fill(0, 700);
        due(0, () -> x.pass(1));
        due(3, () -> x.lots());
        due(4, () -> x.pass(1));
        due(2, () -> x.lots());
        due(500 - 18, () -> x.empty(0));
        due(700, () -> x.empty(0));
        MouldDesk y = shop();
        y.addResin(1);
        y.order(0, 1, 4, 0);
        y.run(0, 0);
        y.fill(1, 60);
        y.pass(1);
        y.fill(1, 60);
        due(4, () -> y.pass(1));
        due(12, () -> y.empty(0));
        due(60, () -> y.empty(0));
    }

    private static void regrindIn() {
        MouldDesk x = running(5000, 25);
        due(0, () -> x.regrindIn(0));
        due(INDEX, () -> x.regrindIn(1));
        for (int number : WRONG_INDEXES) {
            due(INDEX, () -> x.regrindIn(number));
        }
        x.pass(1);
        due(16, () -> x.regrindIn(0));
        due(8, () -> x.regrind(0));
        due(99999 - 3 * 48 + 16, () -> x.dry(0));
        x.pass(1);
        due(40, () -> x.regrindIn(0));
        x.order(0, 0, 10, 5);
        x.run(0, 1);
        x.pass(1);
        // 5 percent of 48 g are 2 g, rounded down; the last shot is full too.
        due(6, () -> x.regrindIn(1));
        due(6, () -> x.regrindByShots(1));
        due(40, () -> x.regrindIn(0));
    }

    private static void regrindByShots() {
        MouldDesk x = running(40, 13);
        due(0, () -> x.regrindByShots(0));
        due(INDEX, () -> x.regrindByShots(1));
        for (int number : WRONG_INDEXES) {
            due(INDEX, () -> x.regrindByShots(number));
        }
        x.pass(1);
        due(12, () -> x.regrindByShots(0));
        x.pass(1);
        due(30, () -> x.regrindByShots(0));
        x.pass(20);
        due(54, () -> x.regrindByShots(0));
        due(54, () -> x.regrindIn(0));
        x.order(0, 0, 10, 0);
        due(0, () -> x.regrindByShots(1));
        MouldDesk y = new MouldDesk();
        y.addResin(0);
        y.addMachine(1);
        y.addMould(1, 5, 5, 1, 60);
        y.mount(0, 0);
        y.order(0, 0, 5000, 50);
        y.run(0, 0);
        y.fill(0, 99999);
        for (int day = 0; day < 4; day++) {
            y.pass(24);
        }
        due(5000, () -> y.shots(0));
        due(4999 * 5, () -> y.regrindByShots(0));
        due(4999 * 5, () -> y.regrindIn(0));
    }

    private static void greatestShare() {
        MouldDesk x = running(5000, 25);
        due(NO_ELEMENT, () -> x.greatestShare(0));
        due(INDEX, () -> x.greatestShare(1));
        for (int number : WRONG_INDEXES) {
            due(INDEX, () -> x.greatestShare(number));
        }
        x.pass(1);
        due(16, () -> x.greatestShare(0));
        x.order(0, 0, 1, 50);
        x.run(0, 1);
        x.pass(1);
        // The 8 g that there were of 48 g; three parts go into the regrind.
        due(16, () -> x.greatestShare(1));
        due(38, () -> x.regrind(0));
        x.run(0, 0);
        x.pass(1);
        due(25, () -> x.greatestShare(0));
        // Later shots with a lesser share leave it.
        x.pass(5);
        due(25, () -> x.greatestShare(0));
        MouldDesk y = running(100, 0);
        y.pass(1);
        due(0, () -> y.greatestShare(0));
    }

    private static void pass() {
        MouldDesk x = running(20, 0);
        due(ARGUMENT, () -> x.pass(0));
        due(ARGUMENT, () -> x.pass(-1));
        due(ARGUMENT, () -> x.pass(25));
        due(ARGUMENT, () -> x.pass(Integer.MAX_VALUE));
        due(12, () -> x.pass(1));
        due(8, () -> x.pass(24));
        for (int day = 0; day < 11; day++) {
            due(0, () -> x.pass(24));
        }
        due(289, () -> x.hours());
        due(STATE, () -> x.pass(12));
        due(ARGUMENT, () -> x.pass(25));
        due(289, () -> x.hours());
        due(0, () -> x.pass(11));
        due(300, () -> x.hours());
        due(STATE, () -> x.pass(1));
    }

    private static void machinesWorkInAscendingOrder() {
        MouldDesk x = shop();
        x.addMachine(999);
        x.addMould(1, 40, 8, 1, 3600);
        x.mount(1, 1);
        x.order(1, 0, 10, 50);
        x.order(0, 0, 100, 0);
        x.run(1, 0);
        x.run(0, 1);
        x.fill(0, 3 * 48 + 24);
        // Machine 0 goes first: its sprues of this hour serve machine 1 at once.
        due(13, () -> x.pass(1));
        due(24, () -> x.regrindIn(0));
        due(50, () -> x.greatestShare(0));
        due(8, () -> x.regrind(0));
        due(0, () -> x.lots());
    }

    private static void noShotWithoutCavity() {
        MouldDesk x = running(5000, 0);
        for (int cavity = 0; cavity < 4; cavity++) {
            x.setLife(0, cavity, cavity + 1);
        }
        due(4 + 3 + 2, () -> x.pass(1));
        due(1, () -> x.pass(1));
        due(0, () -> x.pass(1));
        due(4, () -> x.shots(0));
        due(99999 - 10 * 10 - 4 * 8, () -> x.dry(0));
        due(4 * 8, () -> x.regrind(0));
    }

    private static void aShotTakesOpenCavitiesOnly() {
        MouldDesk x = running(6, 0);
        x.block(0, 1);
        due(6, () -> x.pass(1));
        due(99999 - 2 * 38, () -> x.dry(0));
        due(0, () -> x.setLife(0, 1, 9999));
        due(2, () -> x.setLife(0, 0, 9999));
    }

    private static void hours() {
        MouldDesk x = new MouldDesk();
        due(0, () -> x.hours());
        x.pass(24);
        due(24, () -> x.hours());
        x.pass(1);
        due(25, () -> x.hours());
        due(ARGUMENT, () -> x.pass(25));
        due(25, () -> x.hours());
    }

    private static void regrindShare() {
        MouldDesk x = running(5000, 25);
        due(ARITHMETIC, () -> x.regrindShare());
        x.pass(1);
        due(String.valueOf(16f / 144f), () -> x.regrindShare());
        x.order(0, 0, 4, 0);
        x.run(0, 1);
        x.pass(1);
        due(String.valueOf(16f / 192f), () -> x.regrindShare());
        MouldDesk y = running(4, 0);
        y.pass(1);
        due("0.0", () -> y.regrindShare());
        MouldDesk z = shop();
        z.order(0, 0, 4, 0);
        z.run(0, 0);
        z.pass(1);
        due(ARITHMETIC, () -> z.regrindShare());
    }

    private static void regrindShareOfManyGrams() {
        MouldDesk x = new MouldDesk();
        x.addResin(0);
        x.addMachine(1);
        x.addMould(8, 199, 199, 1, 60);
        x.mount(0, 0);
        x.order(0, 0, 5000, 50);
        x.order(0, 0, 5000, 50);
        x.run(0, 0);
        for (int hour = 0; hour < 30; hour++) {
            if (x.lots() < 3) {
                x.fill(0, 99999);
            }
            x.pass(1);
            if (x.lacks(0) == 0 && x.shots(1) == 0) {
                x.run(0, 1);
            }
        }
        due(0, () -> x.lacks(1));
        due(1250, () -> x.shots(0) + x.shots(1));
        long grams = 1250L * 9 * 199;
        long regrind = x.regrindIn(0) + x.regrindIn(1);
        due(String.valueOf((float) regrind / (float) grams), () -> x.regrindShare());
        due("8.0", () -> x.meanParts());
    }

    private static void meanParts() {
        MouldDesk x = running(10, 0);
        due(ARITHMETIC, () -> x.meanParts());
        x.pass(1);
        due(String.valueOf(10.0 / 3.0), () -> x.meanParts());
        x.order(0, 0, 1, 0);
        x.run(0, 1);
        x.pass(1);
        due(String.valueOf(11.0 / 4.0), () -> x.meanParts());
        MouldDesk y = shop();
        y.pass(1);
        due(ARITHMETIC, () -> y.meanParts());
    }

    private static void theLeastShot() {
        MouldDesk x = new MouldDesk();
        x.addResin(0);
        x.addMachine(1);
        x.addMould(1, 1, 0, 1, 60);
        x.mount(0, 0);
        x.order(0, 0, 1, 50);
        x.run(0, 0);
        x.fill(0, 1);
        due(1, () -> x.pass(1));
        due(0, () -> x.greatestShare(0));
        due("0.0", () -> x.regrindShare());
        due("1.0", () -> x.meanParts());
    }

    private static void test(String name, Runnable body) {
        promise = name;
        try {
            body.run();
        } catch (RuntimeException e) {
            wrong++;
            System.out.println(name + ": a call that sets the shop up threw " + e);
        }
    }

    public static void main(String[] args) {
        test("promise 1", PromiseTest::newObject);
        test("promise 2", PromiseTest::addResin);
        test("promise 3", PromiseTest::fill);
        test("promise 4", PromiseTest::empty);
        test("promise 5", PromiseTest::lots);
        test("promise 5, lots that leave together", PromiseTest::emptyLotsLeaveInOneGo);
        test("promise 6", PromiseTest::hoursToDry);
        test("promise 7", PromiseTest::dry);
        test("promise 8", PromiseTest::regrind);
        test("promise 9", PromiseTest::addMould);
        test("promise 10", PromiseTest::setLife);
        test("promise 10, the first life", PromiseTest::firstLife);
        test("promise 11", PromiseTest::block);
        test("promise 12", PromiseTest::repair);
        test("promise 13", PromiseTest::nextOpen);
        test("promise 14", PromiseTest::addMachine);
        test("promise 15", PromiseTest::mount);
        test("promise 15, the order goes", PromiseTest::mountTakesTheOrder);
        test("promise 16", PromiseTest::run);
        test("promise 16, whole cycles", PromiseTest::shotsOfAnHour);
        test("promise 16, another order", PromiseTest::runInPlaceOfAnother);
        test("promise 17", PromiseTest::order);
        test("promise 18", PromiseTest::lacks);
        test("promise 19", PromiseTest::hoursNeeded);
        test("promise 20", PromiseTest::shots);
        test("promise 20, resin lacks", PromiseTest::noShotWithoutResin);
        test("promise 20, wet resin", PromiseTest::noShotBeforeTheResinIsDry);
        test("promise 20, order of lots", PromiseTest::lotsAreUsedInTheirOrder);
        test("promise 21", PromiseTest::regrindIn);
        test("promise 22", PromiseTest::regrindByShots);
        test("promise 23", PromiseTest::greatestShare);
        test("promise 24", PromiseTest::pass);
        test("promise 24, order of machines", PromiseTest::machinesWorkInAscendingOrder);
        test("promise 24, cavities fail", PromiseTest::noShotWithoutCavity);
        test("promise 24, open cavities", PromiseTest::aShotTakesOpenCavitiesOnly);
        test("promise 25", PromiseTest::hours);
        test("promise 26", PromiseTest::regrindShare);
        test("promise 26, many grams", PromiseTest::regrindShareOfManyGrams);
        test("promise 27", PromiseTest::meanParts);
        test("promises 23, 26 and 27, one shot of a gram", PromiseTest::theLeastShot);
        System.out.println(wrong == 0 ? "all answers are as due" : wrong + " answers are not as due");
        if (wrong != 0) {
            System.exit(1);
        }
    }
}
