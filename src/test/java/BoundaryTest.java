import java.io.IOException;
import java.nio.file.Files;
import java.nio.file.Path;
import java.util.ArrayList;
import java.util.HashSet;
import java.util.List;
import java.util.Set;
import java.util.function.Supplier;
import java.util.regex.Pattern;

/**
 * Each sentence of ../shared/DOC.md that names a boundary case, quoted, with a test of its own. At the
 * end the document itself is read: a sentence that looks like a boundary and is not quoted here, or one
 * that is quoted and does not stand there, is a fault.
 */
public final class BoundaryTest {
    private static final String INDEX = "throws.IndexOutOfBoundsException";
    private static final String ARGUMENT = "throws.IllegalArgumentException";
    private static final String STATE = "throws.IllegalStateException";
    private static final String UNSUPPORTED = "throws.UnsupportedOperationException";
    private static final String NO_ELEMENT = "throws.NoSuchElementException";
    private static final String ARITHMETIC = "throws.ArithmeticException";

    private static final Path DOCUMENT = Path.of("../shared/DOC.md");
    private static final Pattern BOUNDARY = Pattern.compile("\\d|Throws|\\b[Aa]t most\\b|at first|[Ww]ithout|\\b[Nn]o\\b|\\bnone\\b|\\bonly\\b"
        + "|rounded down|fewer|more than|as many|\\bempty\\b|at once|in place|exception|all of its|enough|the first");

    private static final Set<String> HELPERS = Set.of("lineOfTest", "due", "dueNot", "refused", "numbered", "ranges");

    private static final Set<String> tested = new HashSet<>();
    private static String section = "";
    private static String sentence = "";
    private static int checks = 0;
    private static int wrong = 0;

    private interface Call {
        Object answer();
    }

    private interface Deed {
        Object on(MouldDesk x);
    }

    private interface Ask {
        Object of(MouldDesk x, int number);
    }

    // ---- how answers are looked at

    private static void fault(String text) {
        wrong++;
        System.out.println(section + ", \"" + sentence + "\": " + text);
    }

    private static String answerOf(Call call) {
        try {
            return String.valueOf(call.answer());
        } catch (RuntimeException e) {
            return "throws." + e.getClass().getSimpleName();
        }
    }

    private static int lineOfTest() {
        for (StackTraceElement from : new Throwable().getStackTrace()) {
            if (!HELPERS.contains(from.getMethodName())) {
                return from.getLineNumber();
            }
        }
        return 0;
    }

    private static void due(String want, Call call) {
        checks++;
        String got = answerOf(call);
        if (!got.equals(want)) {
            fault("line " + lineOfTest() + ": answered " + got + ", due is " + want);
        }
    }

    private static void due(long want, Call call) {
        due(String.valueOf(want), call);
    }

    private static void dueNot(String exception, Call call) {
        checks++;
        if (answerOf(call).equals(exception)) {
            fault("line " + lineOfTest() + ": " + exception + " is not due");
        }
    }

    /** The call is refused, and a twin that never heard it goes on with the same answers. */
    private static void refused(String exception, Supplier<MouldDesk> maker, Deed call) {
        MouldDesk asked = maker.get();
        due(exception, () -> call.on(asked));
        String want = told(maker.get());
        String got = told(asked);
        if (!got.equals(want)) {
            fault("line " + lineOfTest() + ": a refused call changes the answers from " + want + " to " + got);
        }
    }

    /** Numbers from 0 to below the count are there, and no others. */
    private static void numbered(Supplier<MouldDesk> maker, int count, Ask call) {
        for (int number : new int[] {-1, count, Integer.MIN_VALUE, Integer.MAX_VALUE}) {
            refused(INDEX, maker, x -> call.of(x, number));
        }
        for (int number = 0; number < count; number++) {
            int there = number;
            MouldDesk x = maker.get();
            dueNot(INDEX, () -> call.of(x, there));
        }
    }

    /** Numbers from the least to the most are taken, and no others. */
    private static void ranges(Supplier<MouldDesk> maker, int least, int most, Ask call) {
        for (int number : new int[] {least - 1, most + 1, Integer.MIN_VALUE, Integer.MAX_VALUE}) {
            refused(ARGUMENT, maker, x -> call.of(x, number));
        }
        for (int number : new int[] {least, least + 1, most - 1, most}) {
            MouldDesk x = maker.get();
            dueNot(ARGUMENT, () -> call.of(x, number));
        }
    }

    // ---- all that a shop answers

    private static void tell(StringBuilder all, Call call) {
        all.append(answerOf(call)).append(' ');
    }

    private static void tellLooks(MouldDesk x, StringBuilder all) {
        tell(all, () -> x.lots());
        tell(all, () -> x.hours());
        tell(all, () -> x.regrindShare());
        tell(all, () -> x.meanParts());
        for (int i = 0; i < 3; i++) {
            int lot = i;
            tell(all, () -> x.hoursToDry(lot));
        }
        for (int i = 0; i < 4; i++) {
            int resin = i;
            tell(all, () -> x.dry(resin));
            tell(all, () -> x.regrind(resin));
        }
        for (int i = 0; i < 8; i++) {
            int order = i;
            tell(all, () -> x.lacks(order));
            tell(all, () -> x.shots(order));
            tell(all, () -> x.regrindIn(order));
            tell(all, () -> x.regrindByShots(order));
            tell(all, () -> x.greatestShare(order));
            tell(all, () -> x.hoursNeeded(order));
        }
    }

    /** All answers of a shop by some 280 calls; the shop is used up by them. */
    private static String told(MouldDesk x) {
        StringBuilder all = new StringBuilder();
        tellLooks(x, all);
        tell(all, () -> x.pass(2));
        tellLooks(x, all);
        for (int i = 0; i < 40; i++) {
            int mould = i / 8;
            int cavity = i % 8;
            tell(all, () -> x.setLife(mould, cavity, 9999));
            tell(all, () -> x.block(mould, cavity));
            tell(all, () -> x.repair(mould, cavity));
        }
        for (int i = 0; i < 15; i++) {
            int machine = i / 5;
            int mould = i % 5;
            tell(all, () -> x.mount(machine, mould));
        }
        tell(all, () -> x.addResin(9));
        tell(all, () -> x.addMould(1, 1, 1, 1, 60));
        tell(all, () -> x.addMachine(1));
        tell(all, () -> x.order(0, 0, 1, 1));
        for (int i = 0; i < 3; i++) {
            tell(all, () -> x.empty(0));
        }
        tell(all, () -> x.fill(0, 1));
        return all.toString();
    }

    // ---- the shops

    /** Two machines at work, nothing of the shop at its limit; order 1 has no shot yet, order 2 is done. */
    private static MouldDesk busy() {
        MouldDesk x = new MouldDesk();
        x.addResin(0);
        x.addResin(2);
        x.addMould(4, 10, 8, 200, 1200);
        x.addMould(2, 50, 20, 900, 600);
        x.addMould(1, 5, 0, 100, 3600);
        x.addMachine(300);
        x.addMachine(950);
        x.mount(0, 0);
        x.mount(1, 1);
        x.setLife(0, 1, 9);
        x.setLife(1, 0, 9);
        x.block(0, 3);
        x.block(2, 0);
        x.order(0, 0, 100, 25);
        x.order(1, 1, 50, 40);
        x.order(0, 0, 3, 0);
        x.fill(0, 2000);
        x.fill(1, 3000);
        x.run(0, 2);
        x.pass(1);
        x.run(0, 0);
        x.run(1, 1);
        x.pass(1);
        return x;
    }

    /** As many of everything as there can be; mould 3 is not mounted, and machine 0 is the weakest. */
    private static MouldDesk full() {
        MouldDesk x = new MouldDesk();
        for (int i = 0; i < 4; i++) {
            x.addResin(i);
        }
        for (int i = 0; i < 5; i++) {
            x.addMould(8 - i, 10 + i, i, 100 + 100 * i, 600 + 100 * i);
        }
        for (int i = 0; i < 3; i++) {
            x.addMachine(100 + 100 * i);
            x.mount(i, i);
        }
        for (int i = 0; i < 8; i++) {
            x.order(i % 3, i % 3, 40 * (i + 1), 10);
        }
        for (int i = 0; i < 3; i++) {
            x.fill(i, 50000);
            x.run(i, i);
        }
        x.block(4, 0);
        x.pass(3);
        return x;
    }

    /** The busy shop at this hour, 3 or later. */
    private static MouldDesk at(int hour) {
        MouldDesk x = busy();
        while (x.hours() < hour) {
            x.pass(Math.min(24, hour - x.hours()));
        }
        return x;
    }

    /** Resin 0 needs no drying; mould 0 (4 cavities, part 10 g, sprue 8 g, 3 shots an hour) is on machine 0. */
    private static MouldDesk shop() {
        MouldDesk x = new MouldDesk();
        x.addResin(0);
        x.addMould(4, 10, 8, 200, 1200);
        x.addMachine(300);
        x.mount(0, 0);
        return x;
    }

    /** The shop of above with this resin in the dryer, where order 0 is run. */
    private static MouldDesk running(int parts, int share, int grams) {
        MouldDesk x = shop();
        x.fill(0, grams);
        x.order(0, 0, parts, share);
        x.run(0, 0);
        return x;
    }

    /** Machine 0 runs order 0 with one cavity, a shot an hour unless the cycle is shorter, and resin enough. */
    private static MouldDesk single(int part, int sprue, int cycle, int parts, int share) {
        MouldDesk x = new MouldDesk();
        x.addResin(0);
        x.addMould(1, part, sprue, 1, cycle);
        x.addMachine(1);
        x.mount(0, 0);
        x.order(0, 0, parts, share);
        x.run(0, 0);
        x.fill(0, 99999);
        return x;
    }

    private static void pass(MouldDesk x, int hours) {
        for (int left = hours; left > 0; left -= 24) {
            x.pass(Math.min(24, left));
        }
    }

    // ---- the tests

    private static void test(String text, Runnable body) {
        sentence = text;
        int before = checks;
        if (!tested.add(section + ": " + text)) {
            fault("is tested twice");
        }
        try {
            body.run();
        } catch (RuntimeException e) {
            fault("a call that sets the shop up threw " + e);
        }
        if (checks == before) {
            fault("is not tested by any answer");
        }
    }

    private static void whatItIs() {
        section = "What it is";
        test("An object is used for at most 512 calls after it has been made; what later calls answer is free.", BoundaryTest::dearCalls);
    }

    /** The 512th call answers, after 7 that set the shop up, 300 that pass hours and 204 that are refused. */
    private static void dearCalls() {
        MouldDesk x = single(1, 1, 60, 5000, 50);
        int calls = 7;
        for (; calls < 307; calls++) {
            due(calls - 7 < 83 ? 60 : calls - 7 == 83 ? 20 : 0, () -> x.pass(1));
        }
        for (; calls < 511; calls++) {
            due(STATE, () -> x.pass(1));
        }
        due(4999, () -> x.regrindByShots(0));
    }

    private static void termsOfResins() {
        section = "Terms";
        test("No part has more regrind than its order lets.", () -> {
            for (int share : new int[] {0, 1, 9, 10, 11, 33, 49, 50}) {
                MouldDesk x = single(7, 3, 60, 100, 0);
                x.pass(2);
                due(300, () -> x.regrind(0));
                x.order(0, 0, 1, share);
                x.run(0, 1);
                x.pass(1);
                // A shot has 10 g, so that most shares are rounded down.
                due(share / 10, () -> x.regrindIn(1));
                due(share / 10 * 10, () -> x.greatestShare(1));
            }
        });
        test("At most 4 resins are numbered from 0.", () -> {
            MouldDesk x = new MouldDesk();
            for (int resin = 0; resin < 4; resin++) {
                int number = resin;
                due(INDEX, () -> x.regrind(number));
                due(number, () -> x.addResin(0));
                due(0, () -> x.regrind(number));
            }
            due(STATE, () -> x.addResin(0));
            due(INDEX, () -> x.regrind(4));
        });
        test("A resin has the hours for which it has to be dried, from 0 to 9, and regrind, in grams, at first none.", () -> {
            for (int hours = 0; hours <= 9; hours++) {
                int needed = hours;
                MouldDesk x = new MouldDesk();
                due(0, () -> x.addResin(needed));
                due(0, () -> x.regrind(0));
                x.fill(0, 5);
                due(needed, () -> x.hoursToDry(0));
            }
            MouldDesk y = new MouldDesk();
            due(ARGUMENT, () -> y.addResin(-1));
            due(ARGUMENT, () -> y.addResin(10));
        });
        test("The dryer holds at most 3 lots of resin: a lot has a resin, grams, and the hours for which it has been dried so far; "
            + "it is dry when these are as many as its resin needs.", () -> {
            MouldDesk x = new MouldDesk();
            x.addResin(9);
            for (int lots = 1; lots <= 3; lots++) {
                int number = lots;
                due(number, () -> x.fill(0, 100));
            }
            due(STATE, () -> x.fill(0, 100));
            due(3, () -> x.lots());
            x.pass(8);
            due(0, () -> x.dry(0));
            due(1, () -> x.hoursToDry(2));
            x.pass(1);
            due(300, () -> x.dry(0));
            due(0, () -> x.hoursToDry(2));
            x.pass(24);
            due(300, () -> x.dry(0));
            due(0, () -> x.hoursToDry(2));
        });
    }

    private static void termsOfMoulds() {
        section = "Terms";
        test("At most 5 moulds are numbered from 0.", () -> {
            MouldDesk x = new MouldDesk();
            for (int mould = 0; mould < 5; mould++) {
                int number = mould;
                due(INDEX, () -> x.nextOpen(number, 0));
                due(number, () -> x.addMould(1, 1, 0, 1, 60));
                due(0, () -> x.nextOpen(number, 0));
            }
            due(STATE, () -> x.addMould(1, 1, 0, 1, 60));
            due(INDEX, () -> x.nextOpen(5, 0));
        });
        test("A mould has 1 to 8 cavities, each of which is open, as at first, or blocked, the grams of a part, the grams of the sprue "
            + "of a shot, the force that it needs, and a cycle in seconds.", () -> {
            for (int cavities = 1; cavities <= 8; cavities++) {
                int count = cavities;
                MouldDesk x = new MouldDesk();
                due(0, () -> x.addMould(count, 1, 0, 1, 60));
                for (int i = 0; i < count; i++) {
                    int cavity = i;
                    due(cavity, () -> x.nextOpen(0, cavity));
                    due(count - 1 - cavity, () -> x.block(0, cavity));
                }
                due(NO_ELEMENT, () -> x.nextOpen(0, 0));
                due(INDEX, () -> x.block(0, count));
            }
            MouldDesk y = new MouldDesk();
            due(ARGUMENT, () -> y.addMould(0, 1, 0, 1, 60));
            due(ARGUMENT, () -> y.addMould(9, 1, 0, 1, 60));
        });
        test("A cavity fails, and is blocked, when it has made as many parts as its life tells.", () -> {
            for (int life : new int[] {1, 2, 30}) {
                MouldDesk x = single(1, 0, 3600, 5000, 0);
                x.setLife(0, 0, life);
                pass(x, life - 1);
                due(0, () -> x.nextOpen(0, 0));
                due(1, () -> x.pass(1));
                due(NO_ELEMENT, () -> x.nextOpen(0, 0));
                due(STATE, () -> x.block(0, 0));
                due(0, () -> x.pass(24));
                due(life, () -> x.shots(0));
            }
            // One cavity fails within an hour, and the others go on.
            MouldDesk y = running(100, 0, 5000);
            y.setLife(0, 2, 2);
            due(4 + 4 + 3, () -> y.pass(1));
            due(3, () -> y.nextOpen(0, 2));
        });
        test("A mould is mounted on one machine at most.", () -> {
            MouldDesk x = shop();
            x.addMachine(300);
            x.addMould(1, 1, 0, 1, 60);
            due(STATE, () -> x.mount(1, 0));
            due(STATE, () -> x.mount(0, 0));
            due(0, () -> x.mount(0, 1));
            due(-1, () -> x.mount(1, 0));
            due(STATE, () -> x.mount(0, 0));
        });
        test("At most 3 machines are numbered from 0.", () -> {
            MouldDesk x = new MouldDesk();
            x.addMould(1, 1, 0, 2, 60);
            for (int machine = 0; machine < 3; machine++) {
                int number = machine;
                due(INDEX, () -> x.mount(number, 0));
                due(number, () -> x.addMachine(1));
                due(UNSUPPORTED, () -> x.mount(number, 0));
            }
            due(STATE, () -> x.addMachine(1));
            due(INDEX, () -> x.mount(3, 0));
        });
        test("A machine has a force, and at most one mould, and at most one order.", () -> {
            MouldDesk x = running(100, 0, 5000);
            x.order(0, 0, 100, 0);
            due(3, () -> x.run(0, 1));
            due(12, () -> x.pass(1));
            due(100, () -> x.lacks(0));
            due(88, () -> x.lacks(1));
            x.addMould(1, 1, 0, 300, 60);
            due(0, () -> x.mount(0, 1));
            due(UNSUPPORTED, () -> x.run(0, 1));
            due(1, () -> x.mount(0, 0));
        });
    }

    private static void termsOfOrders() {
        section = "Terms";
        test("At most 8 orders are numbered from 0.", () -> {
            MouldDesk x = shop();
            for (int order = 0; order < 8; order++) {
                int number = order;
                due(INDEX, () -> x.lacks(number));
                due(number, () -> x.order(0, 0, number + 1, 0));
                due(number + 1, () -> x.lacks(number));
            }
            due(STATE, () -> x.order(0, 0, 1, 0));
            due(INDEX, () -> x.lacks(8));
        });
        test("An order has a mould, a resin, a number of parts, and the greatest share of regrind, in percent, from 0 to 50.", () -> {
            MouldDesk x = single(50, 50, 60, 60, 0);
            x.pass(1);
            due(60 * 50, () -> x.regrind(0));
            due(1, () -> x.order(0, 0, 60, 0));
            due(2, () -> x.order(0, 0, 60, 50));
            x.run(0, 1);
            x.pass(1);
            due(0, () -> x.greatestShare(1));
            x.run(0, 2);
            x.pass(1);
            due(50, () -> x.greatestShare(2));
            due(ARGUMENT, () -> x.order(0, 0, 60, -1));
            due(ARGUMENT, () -> x.order(0, 0, 60, 51));
        });
        test("It is open until it has all of its parts, and only an open order is run.", () -> {
            MouldDesk x = single(1, 0, 3600, 2, 0);
            x.pass(1);
            due(1, () -> x.lacks(0));
            due(1, () -> x.run(0, 0));
            x.pass(1);
            due(0, () -> x.lacks(0));
            due(STATE, () -> x.run(0, 0));
            due(0, () -> x.pass(24));
            due(2, () -> x.shots(0));
            due(0, () -> x.lacks(0));
        });
    }

    private static void termsOfShots() {
        section = "Terms";
        test("A shot takes, for each open cavity, the grams of a part, and the grams of the sprue.", () -> {
            for (int blocked = 0; blocked < 4; blocked++) {
                int open = 4 - blocked;
                MouldDesk x = running(1, 0, 1000);
                for (int i = 0; i < blocked; i++) {
                    x.block(0, i);
                }
                due(1, () -> x.pass(1));
                due(1000 - 8 - 10 * open, () -> x.dry(0));
            }
        });
        test("Of this, regrind is the order's share, in percent, rounded down, but not more than there is of the resin; the rest comes "
            + "from the dry lots of the resin, in the order in which they were put in, and the shot is made only if these have enough.", () -> {
            termsOfShares();
            termsOfEnough();
            termsOfLots();
        });
        test("Each open cavity makes a part.", () -> {
            MouldDesk x = running(4, 0, 1000);
            x.block(0, 2);
            due(4, () -> x.pass(1));
            due(2, () -> x.setLife(0, 0, 9999));
            due(2, () -> x.setLife(0, 1, 9999));
            due(0, () -> x.setLife(0, 2, 9999));
            due(2, () -> x.setLife(0, 3, 9999));
        });
        test("The sprue goes into the regrind of the resin, and so do the parts that are more than the order lacks, by the grams of a part.", () -> {
            for (int parts = 1; parts <= 8; parts++) {
                int surplus = parts % 4 == 0 ? 0 : 4 - parts % 4;
                int shots = parts <= 4 ? 1 : 2;
                MouldDesk x = running(parts, 0, 1000);
                due(parts, () -> x.pass(1));
                due(shots * 8 + surplus * 10, () -> x.regrind(0));
            }
            MouldDesk y = single(1, 0, 3600, 1, 0);
            y.pass(1);
            due(0, () -> y.regrind(0));
        });
        test("When no cavity is open, no shot is made.", () -> {
            MouldDesk x = running(10, 0, 1000);
            for (int i = 0; i < 4; i++) {
                x.block(0, i);
            }
            due(0, () -> x.pass(24));
            due(0, () -> x.shots(0));
            due(1000, () -> x.dry(0));
            due(0, () -> x.regrind(0));
            due(ARITHMETIC, () -> x.meanParts());
        });
    }

    private static void termsOfShares() {
        int[] shares = {0, 2, 3, 4, 5, 6, 25, 49, 50};
        int[] grams = {0, 0, 1, 1, 2, 2, 12, 23, 24};
        for (int i = 0; i < shares.length; i++) {
            int want = grams[i];
            MouldDesk x = running(24, 0, 1000);
            x.pass(2);
            due(48, () -> x.regrind(0));
            x.order(0, 0, 4, shares[i]);
            x.run(0, 1);
            due(4, () -> x.pass(1));
            due(want, () -> x.regrindIn(1));
            due(48 - want + 8, () -> x.regrind(0));
            due(1000 - 7 * 48 + want, () -> x.dry(0));
        }
        // There are 8, then 16 g: less than the 24 g that the share lets, and then less again.
        MouldDesk y = running(4, 0, 1000);
        y.pass(1);
        y.order(0, 0, 12, 50);
        y.run(0, 1);
        y.pass(1);
        due(8 + 8 + 8, () -> y.regrindIn(1));
        due(16, () -> y.greatestShare(1));
    }

    private static void termsOfEnough() {
        int[] dry = {47, 48, 95, 96, 97};
        int[] shots = {0, 1, 1, 2, 2};
        for (int i = 0; i < dry.length; i++) {
            int grams = dry[i];
            int made = shots[i];
            MouldDesk x = running(100, 0, grams);
            due(4 * made, () -> x.pass(1));
            due(made, () -> x.shots(0));
            due(grams - 48 * made, () -> x.dry(0));
            due(8 * made, () -> x.regrind(0));
        }
        // With 12 g of regrind the shot needs 36 g more; a gram less, and nothing is taken.
        for (int grams = 35; grams <= 37; grams++) {
            int left = grams;
            boolean enough = grams >= 36;
            MouldDesk x = running(8, 0, 96);
            x.pass(1);
            due(16, () -> x.regrind(0));
            x.fill(0, grams);
            x.order(0, 0, 4, 25);
            x.run(0, 1);
            due(enough ? 4 : 0, () -> x.pass(1));
            due(enough ? left - 36 : left, () -> x.dry(0));
            due(enough ? 16 - 12 + 8 : 16, () -> x.regrind(0));
        }
    }

    private static void termsOfLots() {
        MouldDesk x = shop();
        x.addResin(9);
        x.order(0, 0, 4, 0);
        x.run(0, 0);
        x.fill(0, 20);
        x.fill(1, 500);
        x.fill(0, 30);
        due(4, () -> x.pass(1));
        due(2, () -> x.lots());
        due(500, () -> x.empty(0));
        due(2, () -> x.empty(0));
        // Neither another resin nor a lot that is not dry makes up what lacks.
        MouldDesk y = shop();
        y.addResin(1);
        y.order(0, 1, 4, 0);
        y.run(0, 0);
        y.fill(1, 47);
        y.fill(0, 500);
        y.pass(1);
        y.fill(1, 500);
        due(0, () -> y.pass(1));
        due(4, () -> y.pass(1));
        due(500, () -> y.empty(0));
        due(499, () -> y.empty(0));
    }

    private static void termsOfHours() {
        section = "Terms";
        test("When an hour passes, each machine, in ascending order, that has a mould and an open order of this mould makes shots, one after "
            + "the other: as many as whole cycles of its mould fit into 3600 seconds, or fewer if the order is done before or a shot cannot be made.", () -> {
            termsOfCycles();
            termsOfMachines();
        });
        test("Regrind of this hour can be used in it at once.", () -> {
            MouldDesk x = running(12, 50, 1000);
            x.pass(1);
            due(0 + 8 + 8, () -> x.regrindIn(0));
            due(8, () -> x.regrind(0));
        });
        test("Then each lot is dried for an hour more, and empty lots leave the dryer.", () -> {
            MouldDesk x = new MouldDesk();
            x.addResin(1);
            x.addMould(1, 10, 0, 1, 3600);
            x.addMachine(1);
            x.mount(0, 0);
            x.order(0, 0, 5, 0);
            x.run(0, 0);
            x.fill(0, 10);
            x.fill(0, 10);
            x.fill(0, 11);
            // The lots get dry at the end of the hour, too late for it.
            due(0, () -> x.pass(1));
            due(31, () -> x.dry(0));
            due(1, () -> x.pass(1));
            due(2, () -> x.lots());
            due(2, () -> x.pass(2));
            // A gram is left: the lot stays, and the order waits.
            due(1, () -> x.lots());
            due(1, () -> x.dry(0));
            due(0, () -> x.pass(24));
            due(1, () -> x.lots());
        });
        test("At most 300 hours pass.", () -> {
            MouldDesk x = new MouldDesk();
            pass(x, 299);
            due(STATE, () -> x.pass(2));
            due(299, () -> x.hours());
            due(0, () -> x.pass(1));
            due(300, () -> x.hours());
            due(STATE, () -> x.pass(1));
            due(300, () -> x.hours());
        });
    }

    private static void termsOfCycles() {
        // Of 277 s, 13 cycles are a second too long.
        int[] cycles = {60, 61, 62, 276, 277, 1199, 1200, 1201, 1800, 1801, 3599, 3600};
        int[] shots = {60, 59, 58, 13, 12, 3, 3, 2, 2, 1, 1, 1};
        for (int i = 0; i < cycles.length; i++) {
            int most = shots[i];
            MouldDesk x = single(1, 0, cycles[i], 5000, 0);
            due(most, () -> x.pass(1));
            due(most, () -> x.shots(0));
        }
        // The order is done by the first shot, by the second, by the last, and by one more.
        int[] parts = {1, 4, 5, 8, 9, 12, 13};
        int[] made = {1, 1, 2, 2, 3, 3, 3};
        for (int i = 0; i < parts.length; i++) {
            int got = Math.min(parts[i], 12);
            int most = made[i];
            MouldDesk x = running(parts[i], 0, 1000);
            due(got, () -> x.pass(1));
            due(most, () -> x.shots(0));
        }
    }

    private static void termsOfMachines() {
        // Resin for three shots of machine 0 and one of machine 1, were it not for machine 0 going first.
        MouldDesk x = running(100, 0, 3 * 48);
        x.addMould(1, 40, 8, 1, 3600);
        x.addMachine(1);
        x.mount(1, 1);
        x.order(1, 0, 10, 0);
        x.run(1, 1);
        due(12, () -> x.pass(1));
        due(0, () -> x.shots(1));
        // What a later machine gives to the regrind helps the earlier one from the next hour on.
        MouldDesk y = single(40, 8, 3600, 5000, 50);
        y.empty(0);
        y.fill(0, 48 + 25);
        y.addMould(1, 1, 24, 1, 3600);
        y.addMachine(1);
        y.mount(1, 1);
        y.order(1, 0, 1, 0);
        y.run(1, 1);
        due(2, () -> y.pass(1));
        due(0, () -> y.regrindIn(0));
        due(8 + 24, () -> y.regrind(0));
        y.fill(0, 24);
        due(1, () -> y.pass(1));
        due(24, () -> y.regrindIn(0));
        // A machine without a mould, and one without an order, make nothing.
        MouldDesk z = new MouldDesk();
        z.addResin(0);
        z.fill(0, 100);
        z.addMachine(1);
        z.addMachine(1);
        z.addMould(1, 1, 0, 1, 60);
        z.mount(1, 0);
        z.order(0, 0, 5, 0);
        due(0, () -> z.pass(1));
        due(5, () -> z.lacks(0));
    }

    private static void termsOfExceptions() {
        section = "Terms";
        test("A method that throws an exception changes nothing.", () -> {
            Deed[] wrongForAll = {
                x -> x.addResin(-1), x -> x.fill(9, 1), x -> x.fill(0, 0), x -> x.empty(9), x -> x.hoursToDry(9), x -> x.dry(9), x -> x.regrind(9),
                x -> x.addMould(0, 1, 1, 1, 60), x -> x.setLife(0, 0, 0), x -> x.setLife(0, 8, 1), x -> x.block(0, 8), x -> x.repair(0, 0),
                x -> x.repair(9, 0), x -> x.nextOpen(0, 8), x -> x.nextOpen(9, 0), x -> x.addMachine(0), x -> x.mount(0, 1), x -> x.mount(0, 0),
                x -> x.mount(9, 0), x -> x.run(0, 1), x -> x.run(9, 0), x -> x.order(9, 0, 1, 0), x -> x.order(0, 0, 0, 0), x -> x.lacks(9),
                x -> x.hoursNeeded(9), x -> x.shots(9), x -> x.regrindIn(9), x -> x.regrindByShots(9), x -> x.greatestShare(9), x -> x.pass(25),
            };
            for (Deed deed : wrongForAll) {
                for (Supplier<MouldDesk> maker : List.<Supplier<MouldDesk>>of(BoundaryTest::busy, BoundaryTest::full, () -> at(200))) {
                    MouldDesk x = maker.get();
                    String exception = answerOf(() -> deed.on(x));
                    due("true", () -> exception.startsWith("throws."));
                    refused(exception, maker, deed);
                }
            }
        });
        test("If several exceptions apply, the one that is documented first is thrown.", () -> {
            refused(ARGUMENT, BoundaryTest::full, x -> x.addResin(10));
            refused(INDEX, BoundaryTest::full, x -> x.fill(4, 0));
            refused(INDEX, BoundaryTest::full, x -> x.fill(4, 1));
            refused(ARGUMENT, BoundaryTest::full, x -> x.fill(0, 0));
            refused(ARGUMENT, BoundaryTest::full, x -> x.addMould(9, 1, 1, 1, 60));
            refused(INDEX, BoundaryTest::full, x -> x.setLife(5, 0, 0));
            refused(INDEX, BoundaryTest::full, x -> x.setLife(0, 8, 0));
            refused(INDEX, BoundaryTest::busy, x -> x.nextOpen(3, 99));
            refused(ARGUMENT, BoundaryTest::full, x -> x.addMachine(0));
            // Mould 4 is too strong for machine 0; mould 1 is so too, and is mounted.
            refused(INDEX, BoundaryTest::full, x -> x.mount(3, 4));
            refused(INDEX, BoundaryTest::full, x -> x.mount(0, 5));
            refused(UNSUPPORTED, BoundaryTest::full, x -> x.mount(0, 1));
            // Order 2 of the busy shop is done, and its mould is not on machine 1.
            refused(UNSUPPORTED, BoundaryTest::busy, x -> x.run(1, 2));
            refused(INDEX, BoundaryTest::busy, x -> x.run(2, 2));
            refused(INDEX, BoundaryTest::full, x -> x.order(5, 0, 0, 0));
            refused(INDEX, BoundaryTest::full, x -> x.order(0, 4, 1, 51));
            refused(INDEX, BoundaryTest::full, x -> x.order(0, 4, 1, 0));
            refused(INDEX, BoundaryTest::busy, x -> x.order(0, 2, 0, 0));
            refused(INDEX, BoundaryTest::busy, x -> x.order(0, 2, 1, 51));
            refused(INDEX, BoundaryTest::busy, x -> x.order(3, 0, 0, 0));
            refused(INDEX, BoundaryTest::busy, x -> x.order(3, 0, 1, 51));
            refused(ARGUMENT, BoundaryTest::full, x -> x.order(0, 0, 0, 0));
            refused(ARGUMENT, () -> at(300), x -> x.pass(25));
            refused(ARGUMENT, () -> at(300), x -> x.pass(0));
        });
    }

    private static void promise1() {
        section = "Promise 1";
        test("Creates a shop without resins, moulds, machines and orders, at the hour 0.", () -> {
            MouldDesk x = new MouldDesk();
            due(0, () -> x.hours());
            due(0, () -> x.lots());
            due(INDEX, () -> x.hoursToDry(0));
            due(INDEX, () -> x.empty(0));
            due(INDEX, () -> x.regrind(0));
            due(INDEX, () -> x.dry(0));
            due(INDEX, () -> x.fill(0, 1));
            due(INDEX, () -> x.nextOpen(0, 0));
            due(INDEX, () -> x.setLife(0, 0, 1));
            due(INDEX, () -> x.block(0, 0));
            due(INDEX, () -> x.repair(0, 0));
            due(INDEX, () -> x.mount(0, 0));
            due(INDEX, () -> x.run(0, 0));
            due(INDEX, () -> x.order(0, 0, 1, 0));
            due(INDEX, () -> x.lacks(0));
            due(ARITHMETIC, () -> x.regrindShare());
            due(ARITHMETIC, () -> x.meanParts());
            // One object knows nothing of another.
            busy();
            MouldDesk y = new MouldDesk();
            due(told(x), () -> told(y));
        });
    }

    private static void promise2() {
        section = "Promise 2";
        test("Adds a resin without regrind.", () -> {
            MouldDesk x = busy();
            due("true", () -> x.regrind(0) > 0);
            due(2, () -> x.addResin(0));
            due(0, () -> x.regrind(2));
        });
        test("- `hours`: the hours for which it has to be dried, 0 to 9",
            () -> ranges(BoundaryTest::busy, 0, 9, (x, hours) -> x.addResin(hours)));
        test("Throws `IllegalArgumentException` if the number is out of range", () -> {
            refused(ARGUMENT, MouldDesk::new, x -> x.addResin(-1));
            refused(ARGUMENT, MouldDesk::new, x -> x.addResin(10));
        });
        test("Throws `IllegalStateException` if there are 4 resins", () -> {
            MouldDesk y = busy();
            due(2, () -> y.addResin(9));
            due(3, () -> y.addResin(9));
            due(STATE, () -> y.addResin(9));
            refused(STATE, BoundaryTest::full, x -> x.addResin(0));
            refused(STATE, BoundaryTest::full, x -> x.addResin(9));
        });
    }

    private static void promise3() {
        section = "Promise 3";
        test("- `grams`: the grams, 1 to 99999", () -> {
            ranges(BoundaryTest::busy, 1, 99999, (x, grams) -> x.fill(0, grams));
            MouldDesk y = shop();
            y.fill(0, 1);
            y.fill(0, 99999);
            due(1, () -> y.empty(0));
            due(99999, () -> y.empty(0));
        });
        test("Throws `IndexOutOfBoundsException` if there is no such resin", () -> {
            numbered(BoundaryTest::busy, 2, (x, resin) -> x.fill(resin, 1));
            refused(INDEX, MouldDesk::new, x -> x.fill(0, 1));
        });
        test("Throws `IllegalArgumentException` if the grams are out of range", () -> {
            refused(ARGUMENT, BoundaryTest::shop, x -> x.fill(0, 0));
            refused(ARGUMENT, BoundaryTest::shop, x -> x.fill(0, 100000));
        });
        test("Throws `IllegalStateException` if there are 3 lots in the dryer", () -> {
            MouldDesk y = busy();
            due(3, () -> y.fill(0, 7));
            due(STATE, () -> y.fill(0, 7));
            y.empty(1);
            due(3, () -> y.fill(0, 7));
            refused(STATE, BoundaryTest::full, x -> x.fill(0, 1));
            refused(STATE, BoundaryTest::full, x -> x.fill(3, 99999));
        });
    }

    private static void promise4() {
        section = "Promise 4";
        test("- `lot`: the index of the lot in the order in which they were put in, from 0", () -> {
            for (int out = 0; out < 3; out++) {
                int lot = out;
                MouldDesk x = shop();
                x.fill(0, 10);
                x.fill(0, 11);
                x.fill(0, 12);
                due(10 + lot, () -> x.empty(lot));
                due(lot == 0 ? 11 : 10, () -> x.empty(0));
                due(lot == 2 ? 11 : 12, () -> x.empty(0));
                due(0, () -> x.lots());
            }
        });
        test("Throws `IndexOutOfBoundsException` if there is no such lot", () -> {
            numbered(BoundaryTest::busy, 2, (x, lot) -> x.empty(lot));
            numbered(BoundaryTest::full, 3, (x, lot) -> x.empty(lot));
            refused(INDEX, BoundaryTest::shop, x -> x.empty(0));
        });
    }

    private static void promise5() {
        section = "Promise 5";
        test("Returns the number of lots in the dryer.", () -> {
            MouldDesk x = shop();
            for (int lots = 0; lots < 3; lots++) {
                int number = lots;
                due(number, () -> x.lots());
                x.fill(0, 1);
            }
            due(3, () -> x.lots());
            due(STATE, () -> x.fill(0, 1));
            due(3, () -> x.lots());
            for (int lots = 2; lots >= 0; lots--) {
                int number = lots;
                x.empty(number);
                due(number, () -> x.lots());
            }
            due(INDEX, () -> x.empty(0));
            due(0, () -> x.lots());
        });
    }

    private static void promise6() {
        section = "Promise 6";
        test("Returns the number of hours, 0 if it is dry.", () -> {
            MouldDesk x = new MouldDesk();
            x.addResin(9);
            x.addResin(0);
            x.fill(0, 1);
            x.fill(1, 1);
            for (int hour = 0; hour < 12; hour++) {
                int left = Math.max(0, 9 - hour);
                due(left, () -> x.hoursToDry(0));
                due(0, () -> x.hoursToDry(1));
                x.pass(1);
            }
        });
        test("Throws `IndexOutOfBoundsException` if there is no such lot", () -> {
            numbered(BoundaryTest::busy, 2, (x, lot) -> x.hoursToDry(lot));
            numbered(BoundaryTest::full, 3, (x, lot) -> x.hoursToDry(lot));
            refused(INDEX, BoundaryTest::shop, x -> x.hoursToDry(0));
        });
    }

    private static void promise7() {
        section = "Promise 7";
        test("Returns the grams in all its dry lots.", () -> {
            MouldDesk x = new MouldDesk();
            x.addResin(1);
            due(0, () -> x.dry(0));
            x.fill(0, 99999);
            x.fill(0, 99999);
            x.fill(0, 99999);
            due(0, () -> x.dry(0));
            x.pass(1);
            due(3 * 99999, () -> x.dry(0));
            x.empty(1);
            x.fill(0, 5);
            due(2 * 99999, () -> x.dry(0));
        });
        test("Throws `IndexOutOfBoundsException` if there is no such resin", () -> {
            numbered(BoundaryTest::busy, 2, (x, resin) -> x.dry(resin));
            numbered(BoundaryTest::full, 4, (x, resin) -> x.dry(resin));
        });
    }

    private static void promise8() {
        section = "Promise 8";
        test("Returns the grams.", () -> {
            MouldDesk x = single(200, 200, 60, 60, 0);
            due(0, () -> x.regrind(0));
            x.pass(1);
            due(60 * 200, () -> x.regrind(0));
            // Half of each shot is the regrind that there is, and as much is the sprue that goes into it.
            x.order(0, 0, 60, 50);
            x.run(0, 1);
            x.pass(1);
            due(60 * 200, () -> x.regrind(0));
        });
        test("Throws `IndexOutOfBoundsException` if there is no such resin", () -> {
            numbered(BoundaryTest::busy, 2, (x, resin) -> x.regrind(resin));
            numbered(BoundaryTest::full, 4, (x, resin) -> x.regrind(resin));
        });
    }

    private static void promise9() {
        section = "Promise 9";
        test("- `cavities`: the number of cavities, 1 to 8",
            () -> ranges(BoundaryTest::busy, 1, 8, (x, cavities) -> x.addMould(cavities, 1, 0, 1, 60)));
        test("- `part`: the grams of a part, 1 to 200",
            () -> ranges(BoundaryTest::busy, 1, 200, (x, part) -> x.addMould(1, part, 0, 1, 60)));
        test("- `sprue`: the grams of the sprue, 0 to 200",
            () -> ranges(BoundaryTest::busy, 0, 200, (x, sprue) -> x.addMould(1, 1, sprue, 1, 60)));
        test("- `force`: the force, 1 to 999",
            () -> ranges(BoundaryTest::busy, 1, 999, (x, force) -> x.addMould(1, 1, 0, force, 60)));
        test("- `cycle`: the cycle in seconds, 60 to 3600",
            () -> ranges(BoundaryTest::busy, 60, 3600, (x, cycle) -> x.addMould(1, 1, 0, 1, cycle)));
        test("Throws `IllegalArgumentException` if a number is out of range", () -> {
            int[] least = {1, 1, 0, 1, 60};
            int[] most = {8, 200, 200, 999, 3600};
            for (int i = 0; i < 5; i++) {
                int[] below = least.clone();
                int[] above = most.clone();
                below[i]--;
                above[i]++;
                refused(ARGUMENT, MouldDesk::new, x -> x.addMould(below[0], below[1], below[2], below[3], below[4]));
                refused(ARGUMENT, MouldDesk::new, x -> x.addMould(above[0], above[1], above[2], above[3], above[4]));
            }
            MouldDesk y = new MouldDesk();
            due(0, () -> y.addMould(1, 1, 0, 1, 60));
            due(1, () -> y.addMould(8, 200, 200, 999, 3600));
        });
        test("Throws `IllegalStateException` if there are 5 moulds", () -> {
            MouldDesk y = busy();
            due(3, () -> y.addMould(1, 1, 0, 1, 60));
            due(4, () -> y.addMould(1, 1, 0, 1, 60));
            due(STATE, () -> y.addMould(1, 1, 0, 1, 60));
            refused(STATE, BoundaryTest::full, x -> x.addMould(1, 1, 0, 1, 60));
            refused(STATE, BoundaryTest::full, x -> x.addMould(8, 200, 200, 999, 3600));
        });
    }

    private static void promise10() {
        section = "Promise 10";
        test("Sets the life of a cavity; it fails at once if it has made as many parts.", () -> {
            for (int life = 4; life <= 8; life++) {
                int set = life;
                MouldDesk x = single(1, 0, 600, 5000, 0);
                x.pass(1);
                due(6, () -> x.setLife(0, 0, set));
                due(set <= 6 ? NO_ELEMENT : "0", () -> x.nextOpen(0, 0));
                due(Math.max(0, set - 6), () -> x.pass(1));
            }
            MouldDesk y = shop();
            due(0, () -> y.setLife(0, 0, 1));
            due(0, () -> y.nextOpen(0, 0));
            // A cavity that was blocked stays so when it may live longer.
            y.block(0, 1);
            due(0, () -> y.setLife(0, 1, 9999));
            due(2, () -> y.nextOpen(0, 1));
        });
        test("- `cavity`: the number of the cavity, from 0", () -> {
            MouldDesk x = running(100, 0, 1000);
            for (int i = 0; i < 4; i++) {
                x.setLife(0, i, i + 1);
            }
            x.pass(2);
            for (int i = 0; i < 4; i++) {
                int cavity = i;
                due(cavity + 1, () -> x.setLife(0, cavity, 9999));
            }
            due(INDEX, () -> x.setLife(0, -1, 9999));
            due(INDEX, () -> x.setLife(0, 4, 9999));
        });
        test("- `parts`: the number of parts, 1 to 9999; at first, it is 9999", () -> {
            ranges(BoundaryTest::busy, 1, 9999, (x, parts) -> x.setLife(0, 0, parts));
            MouldDesk y = single(1, 0, 60, 5000, 0);
            y.order(0, 0, 5000, 0);
            pass(y, 84);
            due(0, () -> y.lacks(0));
            y.run(0, 1);
            pass(y, 83);
            due(9980, () -> y.shots(0) + y.shots(1));
            due(0, () -> y.nextOpen(0, 0));
            due(19, () -> y.pass(1));
            due(NO_ELEMENT, () -> y.nextOpen(0, 0));
            due(9999, () -> y.setLife(0, 0, 9999));
            due(1, () -> y.lacks(1));
        });
        test("Throws `IndexOutOfBoundsException` if there is no such mould or no such cavity", () -> {
            numbered(BoundaryTest::busy, 3, (x, mould) -> x.setLife(mould, 0, 1));
            numbered(BoundaryTest::full, 5, (x, mould) -> x.setLife(mould, 0, 1));
            numbered(BoundaryTest::busy, 4, (x, cavity) -> x.setLife(0, cavity, 1));
            numbered(BoundaryTest::full, 8, (x, cavity) -> x.setLife(0, cavity, 1));
            numbered(BoundaryTest::busy, 1, (x, cavity) -> x.setLife(2, cavity, 1));
        });
        test("Throws `IllegalArgumentException` if the number is out of range", () -> {
            // Cavity 1 has a life of 9 parts, which stays.
            refused(ARGUMENT, BoundaryTest::busy, x -> x.setLife(0, 1, 0));
            refused(ARGUMENT, BoundaryTest::busy, x -> x.setLife(0, 1, 10000));
            refused(ARGUMENT, BoundaryTest::busy, x -> x.setLife(0, 3, -1));
        });
    }

    private static void promise11() {
        section = "Promise 11";
        test("Returns the number of cavities that are open then.", () -> {
            MouldDesk x = new MouldDesk();
            x.addMould(8, 1, 0, 1, 60);
            x.addMould(1, 1, 0, 1, 60);
            for (int i = 7; i >= 0; i--) {
                int cavity = i;
                due(cavity, () -> x.block(0, cavity));
            }
            due(0, () -> x.block(1, 0));
        });
        test("Throws `IndexOutOfBoundsException` if there is no such mould or no such cavity", () -> {
            numbered(BoundaryTest::busy, 3, (x, mould) -> x.block(mould, 0));
            numbered(BoundaryTest::full, 5, (x, mould) -> x.block(mould, 0));
            numbered(BoundaryTest::busy, 4, (x, cavity) -> x.block(0, cavity));
            numbered(BoundaryTest::full, 8, (x, cavity) -> x.block(0, cavity));
            numbered(BoundaryTest::busy, 1, (x, cavity) -> x.block(2, cavity));
        });
        test("Throws `IllegalStateException` if it is blocked", () -> {
            refused(STATE, BoundaryTest::busy, x -> x.block(0, 3));
            refused(STATE, BoundaryTest::busy, x -> x.block(2, 0));
            // One that failed is blocked as well.
            MouldDesk y = single(1, 0, 3600, 5, 0);
            y.setLife(0, 0, 1);
            y.pass(1);
            due(STATE, () -> y.block(0, 0));
        });
    }

    private static void promise12() {
        section = "Promise 12";
        test("Repairs a cavity that is blocked: it is open, and has made no parts.", () -> {
            MouldDesk x = single(1, 0, 600, 5000, 0);
            x.addMould(1, 1, 0, 1, 60);
            x.setLife(0, 0, 4);
            due(4, () -> x.pass(1));
            x.mount(0, 1);
            due(1, () -> x.repair(0, 0));
            due(0, () -> x.nextOpen(0, 0));
            x.mount(0, 0);
            x.run(0, 0);
            // It fails again after as many parts as its life tells.
            due(4, () -> x.pass(2));
            due(NO_ELEMENT, () -> x.nextOpen(0, 0));
            x.mount(0, 1);
            x.repair(0, 0);
            due(0, () -> x.setLife(0, 0, 1));
        });
        test("Returns the number of cavities that are open then.", () -> {
            MouldDesk x = new MouldDesk();
            x.addMould(8, 1, 0, 1, 60);
            for (int i = 0; i < 8; i++) {
                x.block(0, i);
            }
            for (int i = 0; i < 8; i++) {
                int cavity = i;
                due(cavity + 1, () -> x.repair(0, cavity));
            }
        });
        test("Throws `IndexOutOfBoundsException` if there is no such mould or no such cavity", () -> {
            numbered(BoundaryTest::busy, 3, (x, mould) -> x.repair(mould, 0));
            numbered(BoundaryTest::full, 5, (x, mould) -> x.repair(mould, 0));
            numbered(BoundaryTest::busy, 4, (x, cavity) -> x.repair(0, cavity));
            numbered(BoundaryTest::full, 8, (x, cavity) -> x.repair(0, cavity));
            numbered(BoundaryTest::busy, 1, (x, cavity) -> x.repair(2, cavity));
        });
        test("Throws `IllegalStateException` if it is open, or the mould is mounted", () -> {
            // Open and mounted, blocked and mounted, open and not mounted, blocked and not mounted.
            refused(STATE, BoundaryTest::busy, x -> x.repair(0, 0));
            refused(STATE, BoundaryTest::busy, x -> x.repair(0, 3));
            refused(STATE, BoundaryTest::full, x -> x.repair(4, 1));
            MouldDesk y = full();
            due(4, () -> y.repair(4, 0));
            due(STATE, () -> y.repair(4, 0));
        });
    }

    private static void promise13() {
        section = "Promise 13";
        test("- `from`: the number of a cavity; a number below 0 counts as 0", () -> {
            for (int from : new int[] {-1, -8, Integer.MIN_VALUE, Integer.MIN_VALUE + 1}) {
                MouldDesk x = shop();
                due(0, () -> x.nextOpen(0, from));
                x.block(0, 0);
                due(1, () -> x.nextOpen(0, from));
            }
        });
        test("Returns the number of the first open cavity from this one on.", () -> {
            MouldDesk x = new MouldDesk();
            x.addMould(8, 1, 0, 1, 60);
            x.block(0, 0);
            x.block(0, 3);
            x.block(0, 4);
            int[] next = {1, 1, 2, 5, 5, 5, 6, 7};
            for (int i = 0; i < 8; i++) {
                int from = i;
                due(next[from], () -> x.nextOpen(0, from));
            }
        });
        test("Throws `IndexOutOfBoundsException` if there is no such mould", () -> {
            numbered(BoundaryTest::busy, 3, (x, mould) -> x.nextOpen(mould, 0));
            numbered(BoundaryTest::full, 5, (x, mould) -> x.nextOpen(mould, -1));
        });
        test("Throws `NoSuchElementException` if there is none", () -> {
            // None from here on, none at all, and no cavity of so great a number.
            refused(NO_ELEMENT, BoundaryTest::busy, x -> x.nextOpen(0, 3));
            refused(NO_ELEMENT, BoundaryTest::busy, x -> x.nextOpen(2, 0));
            refused(NO_ELEMENT, BoundaryTest::busy, x -> x.nextOpen(2, Integer.MIN_VALUE));
            refused(NO_ELEMENT, BoundaryTest::busy, x -> x.nextOpen(1, 2));
            refused(NO_ELEMENT, BoundaryTest::full, x -> x.nextOpen(0, 8));
            refused(NO_ELEMENT, BoundaryTest::full, x -> x.nextOpen(0, Integer.MAX_VALUE));
        });
    }

    private static void promise14() {
        section = "Promise 14";
        test("Adds a machine without a mould.", () -> {
            MouldDesk x = busy();
            due(2, () -> x.addMachine(999));
            due(UNSUPPORTED, () -> x.run(2, 0));
            due(-1, () -> x.mount(2, 2));
        });
        test("- `force`: its force, 1 to 999",
            () -> ranges(BoundaryTest::busy, 1, 999, (x, force) -> x.addMachine(force)));
        test("Throws `IllegalArgumentException` if the force is out of range", () -> {
            refused(ARGUMENT, MouldDesk::new, x -> x.addMachine(0));
            refused(ARGUMENT, MouldDesk::new, x -> x.addMachine(1000));
        });
        test("Throws `IllegalStateException` if there are 3 machines", () -> {
            MouldDesk y = busy();
            due(2, () -> y.addMachine(1));
            due(STATE, () -> y.addMachine(1));
            refused(STATE, BoundaryTest::full, x -> x.addMachine(1));
            refused(STATE, BoundaryTest::full, x -> x.addMachine(999));
        });
    }

    private static void promise15() {
        section = "Promise 15";
        test("Mounts a mould on a machine, in place of the one that it has; the machine has no order then.", () -> {
            MouldDesk x = running(100, 0, 1000);
            x.addMould(4, 10, 8, 1, 1200);
            due(0, () -> x.mount(0, 1));
            due(0, () -> x.pass(1));
            due(1, () -> x.mount(0, 0));
            due(0, () -> x.pass(1));
            x.run(0, 0);
            due(12, () -> x.pass(1));
            // The mould that went may go to another machine.
            x.addMachine(999);
            due(0, () -> x.mount(0, 1));
            due(-1, () -> x.mount(1, 0));
        });
        test("Returns the mould that it had, or -1.", () -> {
            MouldDesk x = new MouldDesk();
            x.addMachine(999);
            for (int mould = 0; mould < 5; mould++) {
                int number = mould;
                x.addMould(1, 1, 0, 1, 60);
                due(number - 1, () -> x.mount(0, number));
            }
            due(4, () -> x.mount(0, 0));
        });
        test("Throws `IndexOutOfBoundsException` if there is no such machine or no such mould", () -> {
            numbered(BoundaryTest::busy, 2, (x, machine) -> x.mount(machine, 2));
            numbered(BoundaryTest::full, 3, (x, machine) -> x.mount(machine, 3));
            numbered(BoundaryTest::busy, 3, (x, mould) -> x.mount(1, mould));
            numbered(BoundaryTest::full, 5, (x, mould) -> x.mount(0, mould));
        });
        test("Throws `UnsupportedOperationException` if the mould needs more force than the machine has", () -> {
            int[] needed = {1, 499, 500, 501, 999};
            for (int force : needed) {
                MouldDesk y = new MouldDesk();
                y.addMachine(500);
                y.addMould(1, 1, 0, force, 60);
                due(force > 500 ? UNSUPPORTED : "-1", () -> y.mount(0, 0));
            }
            refused(UNSUPPORTED, BoundaryTest::full, x -> x.mount(0, 3));
            refused(UNSUPPORTED, BoundaryTest::full, x -> x.mount(2, 4));
        });
        test("Throws `IllegalStateException` if the mould is mounted", () -> {
            refused(STATE, BoundaryTest::busy, x -> x.mount(0, 0));
            refused(STATE, BoundaryTest::busy, x -> x.mount(1, 0));
            refused(STATE, BoundaryTest::full, x -> x.mount(2, 1));
        });
    }

    private static void promise16() {
        section = "Promise 16";
        test("Returns the number of shots that its mould makes in an hour if nothing lacks.", () -> {
            int[] cycles = {60, 61, 276, 277, 1200, 1201, 1800, 1801, 3599, 3600};
            int[] shots = {60, 59, 13, 12, 3, 2, 2, 1, 1, 1};
            for (int i = 0; i < cycles.length; i++) {
                int most = shots[i];
                MouldDesk x = single(1, 0, cycles[i], 1, 0);
                due(most, () -> x.run(0, 0));
                // What lacks does not matter: neither resin nor cavities.
                x.empty(0);
                x.block(0, 0);
                due(most, () -> x.run(0, 0));
            }
        });
        test("Throws `IndexOutOfBoundsException` if there is no such machine or no such order", () -> {
            numbered(BoundaryTest::busy, 2, (x, machine) -> x.run(machine, 0));
            numbered(BoundaryTest::full, 3, (x, machine) -> x.run(machine, 0));
            numbered(BoundaryTest::busy, 3, (x, order) -> x.run(0, order));
            numbered(BoundaryTest::full, 8, (x, order) -> x.run(0, order));
        });
        test("Throws `UnsupportedOperationException` if the machine does not have the mould of the order", () -> {
            refused(UNSUPPORTED, BoundaryTest::busy, x -> x.run(0, 1));
            refused(UNSUPPORTED, BoundaryTest::busy, x -> x.run(1, 0));
            // A machine without any mould, and one whose mould has gone.
            MouldDesk y = busy();
            y.addMachine(999);
            due(UNSUPPORTED, () -> y.run(2, 0));
            y.mount(0, 2);
            due(UNSUPPORTED, () -> y.run(0, 0));
        });
        test("Throws `IllegalStateException` if the order is not open", () -> {
            refused(STATE, BoundaryTest::busy, x -> x.run(0, 2));
            MouldDesk y = single(1, 0, 3600, 2, 0);
            y.pass(1);
            due(1, () -> y.run(0, 0));
            y.pass(1);
            due(STATE, () -> y.run(0, 0));
        });
    }

    private static void promise17() {
        section = "Promise 17";
        test("- `parts`: the number of parts, 1 to 5000", () -> {
            ranges(BoundaryTest::busy, 1, 5000, (x, parts) -> x.order(0, 0, parts, 0));
            MouldDesk y = shop();
            y.order(0, 0, 1, 0);
            y.order(0, 0, 5000, 0);
            due(1, () -> y.lacks(0));
            due(5000, () -> y.lacks(1));
        });
        test("- `share`: its greatest share of regrind in percent, 0 to 50",
            () -> ranges(BoundaryTest::busy, 0, 50, (x, share) -> x.order(0, 0, 1, share)));
        test("Throws `IndexOutOfBoundsException` if there is no such mould or no such resin", () -> {
            numbered(BoundaryTest::busy, 3, (x, mould) -> x.order(mould, 0, 1, 0));
            numbered(BoundaryTest::full, 5, (x, mould) -> x.order(mould, 0, 1, 0));
            numbered(BoundaryTest::busy, 2, (x, resin) -> x.order(0, resin, 1, 0));
            numbered(BoundaryTest::full, 4, (x, resin) -> x.order(0, resin, 1, 0));
        });
        test("Throws `IllegalArgumentException` if another number is out of range", () -> {
            refused(ARGUMENT, BoundaryTest::shop, x -> x.order(0, 0, 0, 0));
            refused(ARGUMENT, BoundaryTest::shop, x -> x.order(0, 0, 5001, 50));
            refused(ARGUMENT, BoundaryTest::shop, x -> x.order(0, 0, 1, -1));
            refused(ARGUMENT, BoundaryTest::shop, x -> x.order(0, 0, 5000, 51));
        });
        test("Throws `IllegalStateException` if there are 8 orders", () -> {
            MouldDesk y = busy();
            for (int order = 3; order < 8; order++) {
                int number = order;
                due(number, () -> y.order(0, 0, 5000, 50));
            }
            due(STATE, () -> y.order(0, 0, 5000, 50));
            // An order that is done counts as well.
            due(0, () -> y.lacks(2));
            refused(STATE, BoundaryTest::full, x -> x.order(0, 0, 1, 0));
            refused(STATE, BoundaryTest::full, x -> x.order(4, 3, 5000, 50));
        });
    }

    private static void promise18() {
        section = "Promise 18";
        test("Returns how many parts an order still lacks.", () -> {
            int[] parts = {1, 4, 5, 12, 13};
            for (int all : parts) {
                MouldDesk x = running(all, 0, 1000);
                due(all, () -> x.lacks(0));
                x.pass(1);
                // Never less than none, though the last shot makes four parts.
                due(Math.max(0, all - 12), () -> x.lacks(0));
                x.pass(1);
                due(0, () -> x.lacks(0));
            }
        });
        test("Throws `IndexOutOfBoundsException` if there is no such order", () -> {
            numbered(BoundaryTest::busy, 3, (x, order) -> x.lacks(order));
            numbered(BoundaryTest::full, 8, (x, order) -> x.lacks(order));
        });
    }

    private static void promise19() {
        section = "Promise 19";
        test("Returns how many hours an order needs if it is run, dry resin never lacks, and no cavity fails.", () -> {
            // Four cavities, three shots an hour.
            int[] parts = {1, 4, 5, 12, 13, 24, 25, 5000};
            int[] needed = {1, 1, 1, 1, 2, 2, 3, 417};
            for (int i = 0; i < parts.length; i++) {
                int want = needed[i];
                MouldDesk x = shop();
                x.order(0, 0, parts[i], 0);
                due(want, () -> x.hoursNeeded(0));
                // Neither does the life matter, nor that the machine has another mould.
                x.setLife(0, 0, 1);
                x.addMould(1, 1, 0, 1, 60);
                x.mount(0, 1);
                due(want, () -> x.hoursNeeded(0));
            }
            MouldDesk y = shop();
            y.addMould(1, 1, 0, 1, 3600);
            y.addMould(8, 1, 0, 1, 60);
            y.order(1, 0, 5000, 0);
            y.order(2, 0, 5000, 0);
            due(5000, () -> y.hoursNeeded(0));
            due(11, () -> y.hoursNeeded(1));
        });
        test("Returns the number of hours, 0 if it is not open.", () -> {
            MouldDesk x = running(13, 0, 1000);
            due(2, () -> x.hoursNeeded(0));
            x.pass(1);
            due(1, () -> x.hoursNeeded(0));
            x.pass(1);
            due(0, () -> x.hoursNeeded(0));
            for (int i = 0; i < 4; i++) {
                x.block(0, i);
            }
            due(0, () -> x.hoursNeeded(0));
        });
        test("Throws `IndexOutOfBoundsException` if there is no such order", () -> {
            numbered(BoundaryTest::busy, 3, (x, order) -> x.hoursNeeded(order));
            numbered(BoundaryTest::full, 8, (x, order) -> x.hoursNeeded(order));
        });
        test("Throws `NoSuchElementException` if it is open, and no cavity of its mould is", () -> {
            refused(NO_ELEMENT, () -> {
                MouldDesk x = busy();
                for (int i = 0; i < 3; i++) {
                    x.block(0, i);
                }
                return x;
            }, x -> x.hoursNeeded(0));
            lastCavities();
        });
    }

    private static void lastCavities() {
        MouldDesk x = running(100, 0, 1000);
        for (int i = 0; i < 3; i++) {
            x.block(0, i);
        }
        due(34, () -> x.hoursNeeded(0));
        x.block(0, 3);
        due(NO_ELEMENT, () -> x.hoursNeeded(0));
        // Cavities that failed are blocked too.
        MouldDesk y = single(1, 0, 3600, 2, 0);
        y.setLife(0, 0, 1);
        y.pass(1);
        due(NO_ELEMENT, () -> y.hoursNeeded(0));
    }

    private static void promise20() {
        section = "Promise 20";
        test("Returns the number of shots of an order.", () -> {
            MouldDesk x = single(1, 0, 60, 5000, 0);
            due(0, () -> x.shots(0));
            pass(x, 83);
            due(4980, () -> x.shots(0));
            x.pass(1);
            due(5000, () -> x.shots(0));
            x.pass(1);
            due(5000, () -> x.shots(0));
        });
        test("Throws `IndexOutOfBoundsException` if there is no such order", () -> {
            numbered(BoundaryTest::busy, 3, (x, order) -> x.shots(order));
            numbered(BoundaryTest::full, 8, (x, order) -> x.shots(order));
        });
    }

    private static void promise21() {
        section = "Promise 21";
        test("Returns the regrind in all shots of an order, as it is kept.", () -> {
            MouldDesk x = single(200, 200, 60, 5000, 50);
            due(0, () -> x.regrindIn(0));
            x.pass(1);
            // The first shot finds none.
            due(59 * 200, () -> x.regrindIn(0));
            x.order(0, 0, 60, 0);
            x.run(0, 1);
            x.pass(1);
            due(0, () -> x.regrindIn(1));
            due(59 * 200, () -> x.regrindIn(0));
        });
        test("Throws `IndexOutOfBoundsException` if there is no such order", () -> {
            numbered(BoundaryTest::busy, 3, (x, order) -> x.regrindIn(order));
            numbered(BoundaryTest::full, 8, (x, order) -> x.regrindIn(order));
        });
    }

    private static void promise22() {
        section = "Promise 22";
        test("Returns the same regrind, found by going through all its shots one by one.", () -> {
            MouldDesk x = single(1, 1, 60, 5000, 50);
            due(0, () -> x.regrindByShots(0));
            for (int hour = 1; hour <= 84; hour++) {
                int shots = Math.min(5000, 60 * hour);
                x.pass(1);
                due(shots - 1, () -> x.regrindByShots(0));
                due(shots - 1, () -> x.regrindIn(0));
            }
            // The first shot of the next order has regrind, and is its only one.
            x.order(0, 0, 1, 50);
            x.run(0, 1);
            x.pass(1);
            due(1, () -> x.regrindByShots(1));
            due(1, () -> x.regrindIn(1));
        });
        test("Throws `IndexOutOfBoundsException` if there is no such order", () -> {
            numbered(BoundaryTest::busy, 3, (x, order) -> x.regrindByShots(order));
            numbered(BoundaryTest::full, 8, (x, order) -> x.regrindByShots(order));
        });
    }

    private static void promise23() {
        section = "Promise 23";
        test("Returns the greatest share of regrind in a shot of an order.", () -> {
            MouldDesk x = running(24, 0, 1000);
            x.pass(2);
            x.order(0, 0, 16, 50);
            x.run(0, 1);
            x.pass(1);
            due(50, () -> x.greatestShare(1));
            // The last shot finds 8 g of regrind, and leaves the share of the first.
            x.pass(1);
            due(24 + 24 + 16 + 8, () -> x.regrindIn(1));
            due(50, () -> x.greatestShare(1));
        });
        test("Returns the share in percent, rounded down.", () -> {
            // A shot of 48 g that finds 8 g of regrind has 16.67 percent of it, one that has all 24 g has 50.
            MouldDesk x = running(24, 0, 1000);
            x.pass(2);
            due(0, () -> x.greatestShare(0));
            x.order(0, 0, 4, 50);
            x.run(0, 1);
            x.pass(1);
            due(50, () -> x.greatestShare(1));
            MouldDesk y = running(8, 50, 1000);
            y.pass(1);
            due(16, () -> y.greatestShare(0));
            // 49 percent of 3 g is 1 g, which is 33 percent.
            MouldDesk z = single(2, 1, 3600, 2, 49);
            z.pass(1);
            due(0, () -> z.greatestShare(0));
            z.pass(1);
            due(33, () -> z.greatestShare(0));
            // 40 percent of 168 g are 67 g, rounded down, and these are 39.9 percent.
            MouldDesk w = single(100, 68, 3600, 2, 40);
            w.pass(2);
            due(67, () -> w.regrindIn(0));
            due(39, () -> w.greatestShare(0));
        });
        test("Throws `IndexOutOfBoundsException` if there is no such order", () -> {
            numbered(BoundaryTest::busy, 3, (x, order) -> x.greatestShare(order));
            numbered(BoundaryTest::full, 8, (x, order) -> x.greatestShare(order));
        });
        test("Throws `NoSuchElementException` if it has no shots", () -> {
            refused(NO_ELEMENT, BoundaryTest::busy, x -> x.greatestShare(1));
            refused(NO_ELEMENT, BoundaryTest::full, x -> x.greatestShare(7));
            MouldDesk y = single(1, 0, 3600, 2, 0);
            due(NO_ELEMENT, () -> y.greatestShare(0));
            y.pass(1);
            due(0, () -> y.greatestShare(0));
        });
    }

    private static void promise24() {
        section = "Promise 24";
        test("- `hours`: the number of hours, 1 to 24", () -> {
            ranges(BoundaryTest::busy, 1, 24, (x, hours) -> x.pass(hours));
            MouldDesk y = single(1, 0, 60, 5000, 0);
            due(60, () -> y.pass(1));
            due(60 * 24, () -> y.pass(24));
            due(25, () -> y.hours());
        });
        test("Returns the number of parts that orders get.", () -> {
            MouldDesk x = new MouldDesk();
            due(0, () -> x.pass(1));
            // Of three shots of four parts, the order gets the nine that it lacks.
            MouldDesk y = running(9, 0, 1000);
            due(9, () -> y.pass(24));
            due(0, () -> y.pass(24));
        });
        test("Throws `IllegalArgumentException` if the number is out of range", () -> {
            refused(ARGUMENT, () -> at(290), x -> x.pass(0));
            refused(ARGUMENT, () -> at(290), x -> x.pass(-290));
            refused(ARGUMENT, () -> at(200), x -> x.pass(25));
            refused(ARGUMENT, () -> at(300), x -> x.pass(Integer.MAX_VALUE));
        });
        test("Throws `IllegalStateException` if more than 300 hours would have passed", () -> {
            for (int hours = 1; hours <= 24; hours++) {
                int last = hours;
                MouldDesk y = at(300 - last);
                dueNot(STATE, () -> y.pass(last));
                due(300, () -> y.hours());
                refused(STATE, () -> at(301 - last), x -> x.pass(last));
            }
            refused(STATE, () -> at(300), x -> x.pass(24));
        });
    }

    private static void promise25() {
        section = "Promise 25";
        test("Returns the number of hours.", () -> {
            MouldDesk x = new MouldDesk();
            for (int hour = 0; hour < 300; hour++) {
                int passed = hour;
                due(passed, () -> x.hours());
                x.pass(1);
            }
            due(300, () -> x.hours());
        });
    }

    private static void promise26() {
        section = "Promise 26";
        test("Returns the grams of regrind divided by all grams, both converted to float.", () -> {
            MouldDesk x = single(200, 200, 60, 5000, 50);
            x.pass(1);
            due(String.valueOf(59f * 200f / (60f * 400f)), () -> x.regrindShare());
            MouldDesk y = single(1, 0, 3600, 1, 50);
            y.pass(1);
            due("0.0", () -> y.regrindShare());
            shareOfManyGrams();
        });
        test("Throws `ArithmeticException` if there was no shot", () -> {
            refused(ARITHMETIC, MouldDesk::new, x -> x.regrindShare());
            // An order that is run, and hours that pass, are not a shot yet.
            refused(ARITHMETIC, () -> {
                MouldDesk x = running(4, 50, 47);
                x.pass(1);
                return x;
            }, x -> x.regrindShare());
            MouldDesk y = running(4, 50, 48);
            y.pass(1);
            due("0.0", () -> y.regrindShare());
        });
    }

    private static void shareOfManyGrams() {
        MouldDesk x = single(200, 200, 60, 5000, 50);
        for (int hour = 0; hour < 84; hour++) {
            if (x.lots() < 3) {
                x.fill(0, 99999);
            }
            x.pass(1);
        }
        due(0, () -> x.lacks(0));
        // The first shot finds no regrind, and all others have as much as the share lets.
        due(String.valueOf(4999f * 200f / (5000f * 400f)), () -> x.regrindShare());
    }

    private static void promise27() {
        section = "Promise 27";
        test("Returns the parts that orders have divided by the number of all shots, both converted to double.", () -> {
            MouldDesk x = running(5, 0, 1000);
            x.pass(1);
            // The second shot makes four parts, of which the order gets one.
            due("2.5", () -> x.meanParts());
            x.order(0, 0, 1, 0);
            x.run(0, 1);
            x.pass(1);
            due("2.0", () -> x.meanParts());
            x.order(0, 0, 1, 0);
            x.run(0, 2);
            x.pass(1);
            due("1.75", () -> x.meanParts());
        });
        test("Throws `ArithmeticException` if there was no shot", () -> {
            refused(ARITHMETIC, MouldDesk::new, x -> x.meanParts());
            refused(ARITHMETIC, () -> {
                MouldDesk x = running(4, 50, 47);
                x.pass(1);
                return x;
            }, x -> x.meanParts());
            MouldDesk y = running(4, 50, 48);
            y.pass(1);
            due("4.0", () -> y.meanParts());
        });
    }

    // ---- the document itself

    /** The sentences of the terms and the promises, each with its section. */
    private static List<String> sentencesOfDocument() throws IOException {
        List<String> all = new ArrayList<>();
        String part = "";
        for (String line : Files.readAllLines(DOCUMENT)) {
            String text = line.strip();
            if (text.startsWith("## ")) {
                part = text.substring(3).replaceAll(":.*", "");
            } else if (!text.isEmpty() && !text.startsWith("Ahead of") && !part.equals("The public face") && !part.equals("Not promised")) {
                text = text.replaceFirst("^`[^`]*`: ", "");
                for (String one : text.startsWith("- ") ? new String[] {text} : text.split("(?<=\\.) ")) {
                    all.add(part + ": " + one);
                }
            }
        }
        return all;
    }

    private static void checkAgainstDocument() throws IOException {
        section = "the document";
        List<String> all = sentencesOfDocument();
        for (String one : all) {
            sentence = one;
            if (BOUNDARY.matcher(one.substring(one.indexOf(": ") + 2)).find() && !tested.contains(one)) {
                fault("names a boundary case and has no test");
            }
        }
        for (String one : tested) {
            sentence = one;
            if (!all.contains(one)) {
                fault("is tested and does not stand in the document");
            }
        }
    }

    public static void main(String[] args) throws IOException {
        whatItIs();
        termsOfResins();
        termsOfMoulds();
        termsOfOrders();
        termsOfShots();
        termsOfHours();
        termsOfExceptions();
        Runnable[] promises = {
            BoundaryTest::promise1, BoundaryTest::promise2, BoundaryTest::promise3, BoundaryTest::promise4, BoundaryTest::promise5,
            BoundaryTest::promise6, BoundaryTest::promise7, BoundaryTest::promise8, BoundaryTest::promise9, BoundaryTest::promise10,
            BoundaryTest::promise11, BoundaryTest::promise12, BoundaryTest::promise13, BoundaryTest::promise14, BoundaryTest::promise15,
            BoundaryTest::promise16, BoundaryTest::promise17, BoundaryTest::promise18, BoundaryTest::promise19, BoundaryTest::promise20,
            BoundaryTest::promise21, BoundaryTest::promise22, BoundaryTest::promise23, BoundaryTest::promise24, BoundaryTest::promise25,
            BoundaryTest::promise26, BoundaryTest::promise27,
        };
        for (Runnable promise : promises) {
            promise.run();
        }
        checkAgainstDocument();
        System.out.println(tested.size() + " sentences, " + checks + " answers");
        System.out.println(wrong == 0 ? "all answers are as due" : wrong + " answers are not as due");
        if (wrong != 0) {
            System.exit(1);
        }
    }
}
