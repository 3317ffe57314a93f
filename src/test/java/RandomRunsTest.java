import java.util.ArrayList;
import java.util.List;

/**
 * Long runs of calls, drawn by a fixed count, on a MouldDesk and on a plain second telling of the
 * document. Every answer has to be the same, and so has the whole state at the end of each run.
 */
public final class RandomRunsTest {
    private static final int RUNS = 1500;
    private static final int CALLS = 380;
    private static final int MOST_CALLS = 512;
    private static final int MOST_WRONG = 20;

    private static final String INDEX = "throws.IndexOutOfBoundsException";
    private static final String ARGUMENT = "throws.IllegalArgumentException";
    private static final String STATE = "throws.IllegalStateException";
    private static final String UNSUPPORTED = "throws.UnsupportedOperationException";
    private static final String NO_ELEMENT = "throws.NoSuchElementException";
    private static final String ARITHMETIC = "throws.ArithmeticException";

    private static int wrong = 0;

    /** Numbers that look drawn by chance, the same ones in every run of the test. */
    private static final class Draw {
        private long state;

        Draw(long seed) {
            state = seed * 0x9E3779B97F4A7C15L + 12345;
        }

        int below(int bound) {
            state = state * 6364136223846793005L + 1442695040888963407L;
            return (int) ((state >>> 33) % bound);
        }

        int between(int least, int most) {
            return least + below(most - least + 1);
        }

        /** A number of the range; now and then an edge of it, or one outside. */
        int near(int least, int most) {
            int kind = below(40);
            if (kind == 0) {
                return least - 1;
            }
            if (kind == 1) {
                return most + 1;
            }
            if (kind == 2) {
                return below(2) == 0 ? Integer.MIN_VALUE : Integer.MAX_VALUE;
            }
            if (kind < 6) {
                return kind == 3 ? least : most;
            }
            return between(least, most);
        }
    }

    private record Shot(int grams, int regrind, int got) {
    }

    private static final class Lot {
        int resin;
        int grams;
        int dried;
    }

    private static final class Mould {
        int part;
        int sprue;
        int force;
        int cycle;
        int machine = -1;
        final List<int[]> cavities = new ArrayList<>();

        int open() {
            int open = 0;
            for (int[] cavity : cavities) {
                open += cavity[BLOCKED] == 0 ? 1 : 0;
            }
            return open;
        }
    }

    private static final int BLOCKED = 0;
    private static final int MADE = 1;
    private static final int LIFE = 2;

    private static final class Order {
        int mould;
        int resin;
        int parts;
        int share;
        final List<Shot> shots = new ArrayList<>();

        int lacks() {
            int got = 0;
            for (Shot shot : shots) {
                got += shot.got();
            }
            return parts - got;
        }
    }

    /** The second telling: calls by name, answers as texts. */
    private static final class Telling {
        final List<Integer> drying = new ArrayList<>();
        final List<Integer> regrind = new ArrayList<>();
        final List<Lot> lots = new ArrayList<>();
        final List<Mould> moulds = new ArrayList<>();
        final List<Integer> forces = new ArrayList<>();
        final List<Integer> tasks = new ArrayList<>();
        final List<Order> orders = new ArrayList<>();
        int hours = 0;

        private static boolean in(int value, int least, int most) {
            return value >= least && value <= most;
        }

        private static boolean has(List<?> row, int index) {
            return in(index, 0, row.size() - 1);
        }

        private boolean hasCavity(int mould, int cavity) {
            return has(moulds, mould) && has(moulds.get(mould).cavities, cavity);
        }

        private boolean isDry(Lot lot) {
            return lot.dried >= drying.get(lot.resin);
        }

        private int dryGrams(int resin) {
            int sum = 0;
            for (Lot lot : lots) {
                sum += lot.resin == resin && isDry(lot) ? lot.grams : 0;
            }
            return sum;
        }

        private int mouldOn(int machine) {
            for (int i = 0; i < moulds.size(); i++) {
                if (moulds.get(i).machine == machine) {
                    return i;
                }
            }
            return -1;
        }

        String answer(String call, int[] a) {
            switch (call) {
                case "addResin": return addResin(a[0]);
                case "fill": return fill(a[0], a[1]);
                case "empty": return has(lots, a[0]) ? "" + lots.remove(a[0]).grams : INDEX;
                case "lots": return "" + lots.size();
                case "hoursToDry": return hoursToDry(a[0]);
                case "dry": return has(drying, a[0]) ? "" + dryGrams(a[0]) : INDEX;
                case "regrind": return has(drying, a[0]) ? "" + regrind.get(a[0]) : INDEX;
                case "addMould": return addMould(a);
                case "setLife": return setLife(a[0], a[1], a[2]);
                case "block": return block(a[0], a[1]);
                case "repair": return repair(a[0], a[1]);
                case "nextOpen": return nextOpen(a[0], a[1]);
                case "addMachine": return addMachine(a[0]);
                case "mount": return mount(a[0], a[1]);
                case "run": return run(a[0], a[1]);
                case "order": return order(a[0], a[1], a[2], a[3]);
                case "lacks": return has(orders, a[0]) ? "" + orders.get(a[0]).lacks() : INDEX;
                case "hoursNeeded": return hoursNeeded(a[0]);
                case "shots": return has(orders, a[0]) ? "" + orders.get(a[0]).shots.size() : INDEX;
                case "regrindIn":
                case "regrindByShots": return regrindIn(a[0]);
                case "greatestShare": return greatestShare(a[0]);
                case "pass": return pass(a[0]);
                case "hours": return "" + hours;
                case "regrindShare": return regrindShare();
                case "meanParts": return meanParts();
                default: throw new IllegalArgumentException(call);
            }
        }

        private String addResin(int need) {
            if (!in(need, 0, 9)) {
                return ARGUMENT;
            }
            if (drying.size() == 4) {
                return STATE;
            }
            drying.add(need);
            regrind.add(0);
            return "" + (drying.size() - 1);
        }

        private String fill(int resin, int grams) {
            if (!has(drying, resin)) {
                return INDEX;
            }
            if (!in(grams, 1, 99999)) {
                return ARGUMENT;
            }
            if (lots.size() == 3) {
                return STATE;
            }
            Lot lot = new Lot();
            lot.resin = resin;
            lot.grams = grams;
            lots.add(lot);
            return "" + lots.size();
        }

        private String hoursToDry(int lot) {
            if (!has(lots, lot)) {
                return INDEX;
            }
            Lot asked = lots.get(lot);
            return isDry(asked) ? "0" : "" + (drying.get(asked.resin) - asked.dried);
        }

        private String addMould(int[] a) {
            if (!in(a[0], 1, 8) || !in(a[1], 1, 200) || !in(a[2], 0, 200) || !in(a[3], 1, 999) || !in(a[4], 60, 3600)) {
                return ARGUMENT;
            }
            if (moulds.size() == 5) {
                return STATE;
            }
            Mould mould = new Mould();
            for (int i = 0; i < a[0]; i++) {
                mould.cavities.add(new int[] {0, 0, 9999});
            }
            mould.part = a[1];
            mould.sprue = a[2];
            mould.force = a[3];
            mould.cycle = a[4];
            moulds.add(mould);
            return "" + (moulds.size() - 1);
        }

        private String setLife(int mould, int cavity, int parts) {
            if (!hasCavity(mould, cavity)) {
                return INDEX;
            }
            if (!in(parts, 1, 9999)) {
                return ARGUMENT;
            }
            int[] set = moulds.get(mould).cavities.get(cavity);
            set[LIFE] = parts;
            if (set[MADE] >= parts) {
                set[BLOCKED] = 1;
            }
            return "" + set[MADE];
        }

        private String block(int mould, int cavity) {
            if (!hasCavity(mould, cavity)) {
                return INDEX;
            }
            int[] shut = moulds.get(mould).cavities.get(cavity);
            if (shut[BLOCKED] == 1) {
                return STATE;
            }
            shut[BLOCKED] = 1;
            return "" + moulds.get(mould).open();
        }

        private String repair(int mould, int cavity) {
            if (!hasCavity(mould, cavity)) {
                return INDEX;
            }
            int[] mended = moulds.get(mould).cavities.get(cavity);
            if (mended[BLOCKED] == 0 || moulds.get(mould).machine >= 0) {
                return STATE;
            }
            mended[BLOCKED] = 0;
            mended[MADE] = 0;
            return "" + moulds.get(mould).open();
        }

        private String nextOpen(int mould, int from) {
            if (!has(moulds, mould)) {
                return INDEX;
            }
            List<int[]> row = moulds.get(mould).cavities;
            for (int i = 0; i < row.size(); i++) {
                if (i >= from && row.get(i)[BLOCKED] == 0) {
                    return "" + i;
                }
            }
            return NO_ELEMENT;
        }

        private String addMachine(int force) {
            if (!in(force, 1, 999)) {
                return ARGUMENT;
            }
            if (forces.size() == 3) {
                return STATE;
            }
            forces.add(force);
            tasks.add(-1);
            return "" + (forces.size() - 1);
        }

        private String mount(int machine, int mould) {
            if (!has(forces, machine) || !has(moulds, mould)) {
                return INDEX;
            }
            if (moulds.get(mould).force > forces.get(machine)) {
                return UNSUPPORTED;
            }
            if (moulds.get(mould).machine >= 0) {
                return STATE;
            }
            int former = mouldOn(machine);
            if (former >= 0) {
                moulds.get(former).machine = -1;
            }
            moulds.get(mould).machine = machine;
            tasks.set(machine, -1);
            return "" + former;
        }

        private String run(int machine, int order) {
            if (!has(forces, machine) || !has(orders, order)) {
                return INDEX;
            }
            Mould mould = moulds.get(orders.get(order).mould);
            if (mould.machine != machine) {
                return UNSUPPORTED;
            }
            if (orders.get(order).lacks() == 0) {
                return STATE;
            }
            tasks.set(machine, order);
            return "" + 3600 / mould.cycle;
        }

        private String order(int mould, int resin, int parts, int share) {
            if (!has(moulds, mould) || !has(drying, resin)) {
                return INDEX;
            }
            if (!in(parts, 1, 5000) || !in(share, 0, 50)) {
                return ARGUMENT;
            }
            if (orders.size() == 8) {
                return STATE;
            }
            Order order = new Order();
            order.mould = mould;
            order.resin = resin;
            order.parts = parts;
            order.share = share;
            orders.add(order);
            return "" + (orders.size() - 1);
        }

        /** Counts shots until the order would be done. */
        private String hoursNeeded(int number) {
            if (!has(orders, number)) {
                return INDEX;
            }
            Order order = orders.get(number);
            Mould mould = moulds.get(order.mould);
            int lacks = order.lacks();
            if (lacks > 0 && mould.open() == 0) {
                return NO_ELEMENT;
            }
            int needed = 0;
            while (lacks > 0) {
                lacks -= 3600 / mould.cycle * mould.open();
                needed++;
            }
            return "" + needed;
        }

        private String regrindIn(int order) {
            if (!has(orders, order)) {
                return INDEX;
            }
            long sum = 0;
            for (Shot shot : orders.get(order).shots) {
                sum += shot.regrind();
            }
            return "" + sum;
        }

        private String greatestShare(int order) {
            if (!has(orders, order)) {
                return INDEX;
            }
            int greatest = -1;
            for (Shot shot : orders.get(order).shots) {
                greatest = Math.max(greatest, 100 * shot.regrind() / shot.grams());
            }
            return greatest < 0 ? NO_ELEMENT : "" + greatest;
        }

        private String pass(int passed) {
            if (!in(passed, 1, 24)) {
                return ARGUMENT;
            }
            if (hours + passed > 300) {
                return STATE;
            }
            int got = 0;
            for (int i = 0; i < passed; i++) {
                for (int machine = 0; machine < tasks.size(); machine++) {
                    if (tasks.get(machine) >= 0) {
                        got += work(orders.get(tasks.get(machine)));
                    }
                }
                for (Lot lot : lots) {
                    lot.dried++;
                }
                lots.removeIf(lot -> lot.grams == 0);
                hours++;
            }
            return "" + got;
        }

        private int work(Order order) {
            int before = order.shots.size();
            int lacks = order.lacks();
            for (int second = moulds.get(order.mould).cycle; second <= 3600; second += moulds.get(order.mould).cycle) {
                if (lacks == 0 || !shoot(order, lacks)) {
                    break;
                }
                lacks -= order.shots.get(order.shots.size() - 1).got();
            }
            int got = 0;
            for (Shot shot : order.shots.subList(before, order.shots.size())) {
                got += shot.got();
            }
            return got;
        }

        private boolean shoot(Order order, int lacks) {
            Mould mould = moulds.get(order.mould);
            int made = mould.open();
            int grams = mould.part * made + mould.sprue;
            int fed = (int) Math.min((long) regrind.get(order.resin), (long) grams * order.share / 100);
            int fresh = grams - fed;
            if (made == 0 || dryGrams(order.resin) < fresh) {
                return false;
            }
            for (Lot lot : lots) {
                if (lot.resin == order.resin && isDry(lot)) {
                    int taken = lot.grams < fresh ? lot.grams : fresh;
                    lot.grams -= taken;
                    fresh -= taken;
                }
            }
            for (int[] cavity : mould.cavities) {
                if (cavity[BLOCKED] == 0 && ++cavity[MADE] == cavity[LIFE]) {
                    cavity[BLOCKED] = 1;
                }
            }
            int got = made < lacks ? made : lacks;
            int left = regrind.get(order.resin) - fed;
            regrind.set(order.resin, left + mould.sprue + mould.part * (made - got));
            order.shots.add(new Shot(grams, fed, got));
            return true;
        }

        private List<Shot> allShots() {
            List<Shot> all = new ArrayList<>();
            for (Order order : orders) {
                all.addAll(order.shots);
            }
            return all;
        }

        private String regrindShare() {
            long fed = 0;
            long grams = 0;
            for (Shot shot : allShots()) {
                fed += shot.regrind();
                grams += shot.grams();
            }
            return grams == 0 ? ARITHMETIC : "" + (float) fed / (float) grams;
        }

        private String meanParts() {
            int got = 0;
            for (Order order : orders) {
                got += order.parts - order.lacks();
            }
            int shots = allShots().size();
            return shots == 0 ? ARITHMETIC : "" + (double) got / (double) shots;
        }
    }

    private static Object ask(MouldDesk x, String call, int[] a) {
        switch (call) {
            case "addResin": return x.addResin(a[0]);
            case "fill": return x.fill(a[0], a[1]);
            case "empty": return x.empty(a[0]);
            case "lots": return x.lots();
            case "hoursToDry": return x.hoursToDry(a[0]);
            case "dry": return x.dry(a[0]);
            case "regrind": return x.regrind(a[0]);
            case "addMould": return x.addMould(a[0], a[1], a[2], a[3], a[4]);
            case "setLife": return x.setLife(a[0], a[1], a[2]);
            case "block": return x.block(a[0], a[1]);
            case "repair": return x.repair(a[0], a[1]);
            case "nextOpen": return x.nextOpen(a[0], a[1]);
            case "addMachine": return x.addMachine(a[0]);
            case "mount": return x.mount(a[0], a[1]);
            case "run": return x.run(a[0], a[1]);
            case "order": return x.order(a[0], a[1], a[2], a[3]);
            case "lacks": return x.lacks(a[0]);
            case "hoursNeeded": return x.hoursNeeded(a[0]);
            case "shots": return x.shots(a[0]);
            case "regrindIn": return x.regrindIn(a[0]);
            case "regrindByShots": return x.regrindByShots(a[0]);
            case "greatestShare": return x.greatestShare(a[0]);
            case "pass": return x.pass(a[0]);
            case "hours": return x.hours();
            case "regrindShare": return x.regrindShare();
            case "meanParts": return x.meanParts();
            default: throw new AssertionError(call);
        }
    }

    private static final class Run {
        private final int number;
        private final Draw draw;
        private final MouldDesk desk = new MouldDesk();
        private final Telling telling = new Telling();
        private final int mostParts;
        private int calls = 0;

        Run(int number) {
            this.number = number;
            draw = new Draw(number);
            mostParts = number % 3 == 0 ? 5000 : 200;
        }

        private boolean check(String call, int... a) {
            calls++;
            String want = telling.answer(call, a);
            String got;
            try {
                got = String.valueOf(ask(desk, call, a));
            } catch (RuntimeException e) {
                got = "throws." + e.getClass().getSimpleName();
            }
            if (got.equals(want)) {
                return true;
            }
            wrong++;
            System.out.println("run " + number + ", call " + calls + ": " + call + java.util.Arrays.toString(a) + " answered " + got + ", due is " + want);
            return false;
        }

        /** So that most shops make shots from early on; what is left out is drawn later. */
        private boolean firstCalls() {
            boolean same = true;
            for (int i = 0; i < 2 && same; i++) {
                same = check("addResin", draw.below(3))
                    && check("addMould", draw.between(1, 8), draw.between(1, 30), draw.between(0, 30), draw.between(1, 900), draw.between(60, 900))
                    && check("addMachine", draw.between(900, 999))
                    && check("mount", i, i)
                    && check("order", i, i, draw.between(1, mostParts), draw.between(0, 50))
                    && check("fill", i, draw.between(1, 99999))
                    && check("run", i, i);
            }
            return same;
        }

        private int machineFor(int order) {
            return Telling.has(telling.orders, order) ? telling.moulds.get(telling.orders.get(order).mould).machine : 0;
        }

        private boolean drawnCall() {
            int resin = draw.near(0, Math.max(0, telling.drying.size() - 1));
            int mould = draw.near(0, Math.max(0, telling.moulds.size() - 1));
            int machine = draw.near(0, Math.max(0, telling.forces.size() - 1));
            int order = draw.near(0, Math.max(0, telling.orders.size() - 1));
            int cavity = draw.near(0, 7);
            switch (draw.below(30)) {
                case 0: return check("addResin", draw.near(0, draw.below(2) == 0 ? 2 : 9));
                case 1:
                case 2:
                case 3: return check("fill", resin, draw.near(1, draw.below(3) == 0 ? 300 : 99999));
                case 4: return check("empty", draw.near(0, draw.below(6) == 0 ? 2 : 0) - draw.below(2));
                case 5: return check("addMould", draw.near(1, 8), draw.near(1, draw.below(2) == 0 ? 9 : 200),
                    draw.near(0, draw.below(2) == 0 ? 9 : 200), draw.near(1, 999), draw.near(60, draw.below(2) == 0 ? 200 : 3600));
                case 6: return check("setLife", mould, cavity, draw.near(1, draw.below(2) == 0 ? 60 : 9999));
                case 7: return check("block", mould, cavity);
                case 8:
                case 9: return check("repair", mould, cavity);
                case 10: return check("nextOpen", mould, draw.near(0, 7));
                case 11: return check("addMachine", draw.near(draw.below(2) == 0 ? 1 : 900, 999));
                case 12: return check("mount", machine, mould);
                case 13:
                case 14:
                case 15: return check("run", draw.below(5) == 0 ? machine : machineFor(order), order);
                case 16: return check("order", mould, resin, draw.near(1, mostParts), draw.near(0, 50));
                case 17:
                case 18:
                case 19: return check("pass", draw.near(1, draw.below(12) == 0 ? 24 : 3));
                case 20: return check("hoursNeeded", order);
                case 21: return check("lacks", order);
                case 22: return check("shots", order);
                case 23: return check("regrindIn", order) && check("regrindByShots", order);
                case 24: return check("greatestShare", order);
                case 25: return check("dry", resin) && check("regrind", resin);
                case 26: return check("hoursToDry", draw.near(0, 2));
                case 27: return check("regrindShare");
                case 28: return check("meanParts");
                default: return check("lots") && check("hours");
            }
        }

        private boolean wholeState() {
            boolean same = check("lots") && check("hours") && check("regrindShare") && check("meanParts");
            for (int i = 0; i < 3 && same; i++) {
                same = check("hoursToDry", i);
            }
            for (int i = 0; i < 4 && same; i++) {
                same = check("dry", i) && check("regrind", i);
            }
            for (int i = 0; i < 8 && same; i++) {
                same = check("lacks", i) && check("shots", i) && check("regrindIn", i) && check("regrindByShots", i)
                    && check("greatestShare", i) && check("hoursNeeded", i);
            }
            for (int mould = 0; mould < 5 && same; mould++) {
                for (int cavity = 0; cavity < 8 && same; cavity++) {
                    same = check("setLife", mould, cavity, 9999);
                }
            }
            return same;
        }

        void go() {
            boolean same = draw.below(8) == 0 || firstCalls();
            for (int i = 0; i < CALLS && calls < CALLS + 20 && same; i++) {
                same = drawnCall();
            }
            if (same) {
                same = wholeState();
            }
            if (calls > MOST_CALLS) {
                wrong++;
                System.out.println("run " + number + " has " + calls + " calls, more than an object is used for");
            }
        }
    }

    public static void main(String[] args) {
        long shots = 0;
        long done = 0;
        for (int number = 0; number < RUNS && wrong < MOST_WRONG; number++) {
            Run run = new Run(number);
            run.go();
            shots += run.telling.allShots().size();
            for (Order order : run.telling.orders) {
                done += order.lacks() == 0 ? 1 : 0;
            }
        }
        System.out.println(RUNS + " runs with " + shots + " shots and " + done + " orders that were done");
        if (shots < 100L * RUNS || done < RUNS / 2) {
            wrong++;
            System.out.println("the runs make too few shots to tell much");
        }
        System.out.println(wrong == 0 ? "all answers are as due" : wrong + " answers are not as due");
        if (wrong != 0) {
            System.exit(1);
        }
    }
}
