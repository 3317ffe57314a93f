import java.util.NoSuchElementException;

/**
 * An injection shop: resins that are dried for hours, moulds with cavities that can be blocked or
 * fail, machines by force, orders of parts, regrind that is fed back by shares, and shots one by
 * one.
 */
public final class MouldDesk {
    private static final int MOST_RESINS = 4;
    private static final int MOST_DRYING_HOURS = 9;
    private static final int MOST_LOTS = 3;
    private static final int MOST_LOT_GRAMS = 99999;

    private static final int MOST_MOULDS = 5;
    private static final int MOST_CAVITIES = 8;
    private static final int MOST_PART_GRAMS = 200;
    private static final int MOST_SPRUE_GRAMS = 200;
    private static final int MOST_FORCE = 999;
    private static final int LEAST_CYCLE = 60;
    private static final int SECONDS_OF_HOUR = 3600;
    private static final int MOST_LIFE = 9999;

    private static final int MOST_MACHINES = 3;
    private static final int NO_MOULD = -1;

    private static final int MOST_ORDERS = 8;
    private static final int MOST_PARTS = 5000;
    private static final int MOST_SHARE = 50;
    private static final int PERCENT = 100;

    private static final int MOST_HOURS = 300;
    private static final int MOST_HOURS_AT_ONCE = 24;

    // In the rows of numbered things a place is null until its number is given.
    private final Resin[] resins;
    private int resinCount;
    private final Mould[] moulds;
    private int mouldCount;
    private final Machine[] machines;
    private int machineCount;
    private final Order[] orders;
    private int orderCount;
    private final Dryer dryer;
    private int hoursPassed;

    private int allShots;
    private int allParts;
    private long allGrams;
    private long allRegrind;

    public MouldDesk() {
        resins = new Resin[MOST_RESINS];
        moulds = new Mould[MOST_MOULDS];
        machines = new Machine[MOST_MACHINES];
        orders = new Order[MOST_ORDERS];
        dryer = new Dryer();
    }

    // ---- resins and the dryer

    public int addResin(int hours) throws IllegalArgumentException, IllegalStateException {
        requireRange(hours, 0, MOST_DRYING_HOURS);
        int number = resinCount;
        if (number < 0 || number >= resins.length) {
            throw new IllegalStateException("no more resins");
        }
        resins[number] = new Resin(hours);
        resinCount = number + 1;
        return number;
    }

    public int fill(int resin, int grams)
            throws IndexOutOfBoundsException, IllegalArgumentException, IllegalStateException {
        Resin filled = resinOf(resin);
        requireRange(grams, 1, MOST_LOT_GRAMS);
        if (dryer.isFull()) {
            throw new IllegalStateException("the dryer is full");
        }
        dryer.put(new Lot(filled, grams));
        return dryer.count;
    }

    public int empty(int lot) throws IndexOutOfBoundsException {
        int grams = lotOf(lot).grams;
        dryer.takeOut(lot);
        return grams;
    }

    public int lots() {
        return dryer.count;
    }

    public int hoursToDry(int lot) throws IndexOutOfBoundsException {
        return lotOf(lot).hoursLeft();
    }

    public int dry(int resin) throws IndexOutOfBoundsException {
        return dryer.dryGrams(resinOf(resin));
    }

    public int regrind(int resin) throws IndexOutOfBoundsException {
        return resinOf(resin).regrindGrams;
    }

    // ---- moulds and machines

    public int addMould(int cavities, int part, int sprue, int force, int cycle)
            throws IllegalArgumentException, IllegalStateException {
        requireRange(cavities, 1, MOST_CAVITIES);
        requireRange(part, 1, MOST_PART_GRAMS);
        requireRange(sprue, 0, MOST_SPRUE_GRAMS);
        requireRange(force, 1, MOST_FORCE);
        requireRange(cycle, LEAST_CYCLE, SECONDS_OF_HOUR);
        int number = mouldCount;
        if (number < 0 || number >= moulds.length) {
            throw new IllegalStateException("no more moulds");
        }
        moulds[number] = new Mould(number, cavities, part, sprue, force, cycle);
        mouldCount = number + 1;
        return number;
    }

    public int setLife(int mould, int cavity, int parts)
            throws IndexOutOfBoundsException, IllegalArgumentException {
        Cavity set = cavityOf(mouldOf(mould), cavity);
        requireRange(parts, 1, MOST_LIFE);
        set.life = parts;
        set.failIfWorn();
        return set.made;
    }

    public int block(int mould, int cavity)
            throws IndexOutOfBoundsException, IllegalStateException {
        Mould holder = mouldOf(mould);
        Cavity shut = cavityOf(holder, cavity);
        if (shut.blocked) {
            throw new IllegalStateException("the cavity is blocked");
        }
        shut.blocked = true;
        return holder.openCavities();
    }

    public int repair(int mould, int cavity)
            throws IndexOutOfBoundsException, IllegalStateException {
        Mould holder = mouldOf(mould);
        Cavity mended = cavityOf(holder, cavity);
        if (!mended.blocked || holder.mounted) {
            throw new IllegalStateException("the cavity is open or the mould is mounted");
        }
        mended.blocked = false;
        mended.made = 0;
        return holder.openCavities();
    }

    public int nextOpen(int mould, int from)
            throws IndexOutOfBoundsException, NoSuchElementException {
        Cavity[] row = mouldOf(mould).cavities;
        for (int i = Math.max(from, 0); i < row.length; i++) {
            Cavity cavity = row[i];
            if (cavity != null && !cavity.blocked) {
                return i;
            }
        }
        throw new NoSuchElementException("no open cavity from here on");
    }

    public int addMachine(int force) throws IllegalArgumentException, IllegalStateException {
        requireRange(force, 1, MOST_FORCE);
        int number = machineCount;
        if (number < 0 || number >= machines.length) {
            throw new IllegalStateException("no more machines");
        }
        machines[number] = new Machine(force);
        machineCount = number + 1;
        return number;
    }

    public int mount(int machine, int mould)
            throws IndexOutOfBoundsException, UnsupportedOperationException, IllegalStateException {
        Machine bearer = machineOf(machine);
        Mould mounted = mouldOf(mould);
        if (mounted.force > bearer.force) {
            throw new UnsupportedOperationException("the machine is too weak");
        }
        if (mounted.mounted) {
            throw new IllegalStateException("the mould is mounted");
        }
        Mould former = bearer.mould;
        bearer.mould = mounted;
        bearer.work = null;
        mounted.mounted = true;
        if (former == null) {
            return NO_MOULD;
        }
        former.mounted = false;
        return former.number;
    }

    public int run(int machine, int order)
            throws IndexOutOfBoundsException, UnsupportedOperationException, IllegalStateException {
        Machine worker = machineOf(machine);
        Order taken = orderOf(order);
        if (worker.mould != taken.mould) {
            throw new UnsupportedOperationException("the machine has another mould");
        }
        if (!taken.isOpen()) {
            throw new IllegalStateException("the order is not open");
        }
        worker.work = taken;
        return taken.mould.shotsOfHour();
    }

    // ---- orders and hours

    public int order(int mould, int resin, int parts, int share)
            throws IndexOutOfBoundsException, IllegalArgumentException, IllegalStateException {
        Mould shape = mouldOf(mould);
        Resin material = resinOf(resin);
        requireRange(parts, 1, MOST_PARTS);
        requireRange(share, 0, MOST_SHARE);
        int number = orderCount;
        if (number < 0 || number >= orders.length) {
            throw new IllegalStateException("no more orders");
        }
        orders[number] = new Order(shape, material, parts, share);
        orderCount = number + 1;
        return number;
    }

    public int lacks(int order) throws IndexOutOfBoundsException {
        return orderOf(order).lacking;
    }

    public int hoursNeeded(int order) throws IndexOutOfBoundsException, NoSuchElementException {
        Order asked = orderOf(order);
        if (!asked.isOpen()) {
            return 0;
        }
        int open = asked.mould.openCavities();
        if (open < 1) {
            throw new NoSuchElementException("no cavity is open");
        }
        return dividedUp(dividedUp(asked.lacking, open), asked.mould.shotsOfHour());
    }

    public int shots(int order) throws IndexOutOfBoundsException {
        return orderOf(order).shotCount;
    }

    public long regrindIn(int order) throws IndexOutOfBoundsException {
        return orderOf(order).regrindKept;
    }

    public long regrindByShots(int order) throws IndexOutOfBoundsException {
        return orderOf(order).regrindAdded();
    }

    public int greatestShare(int order) throws IndexOutOfBoundsException, NoSuchElementException {
        Order asked = orderOf(order);
        if (asked.shotCount < 1) {
            throw new NoSuchElementException("the order has no shots");
        }
        return asked.topShare;
    }

    public int pass(int hours) throws IllegalArgumentException, IllegalStateException {
        requireRange(hours, 1, MOST_HOURS_AT_ONCE);
        if (hoursPassed + hours > MOST_HOURS) {
            throw new IllegalStateException("too many hours");
        }
        int parts = 0;
        for (int hour = 0; hour < hours; hour++) {
            parts += passOneHour();
        }
        return parts;
    }

    public int hours() {
        return hoursPassed;
    }

    public float regrindShare() throws ArithmeticException {
        // A shot has a gram at least, so without grams there was no shot.
        if (allGrams < 1) {
            throw new ArithmeticException("no shot");
        }
        return (float) allRegrind / (float) allGrams;
    }

    public double meanParts() throws ArithmeticException {
        if (allShots < 1) {
            throw new ArithmeticException("no shot");
        }
        return (double) allParts / (double) allShots;
    }

    // ---- what the calls look up

    private static void requireRange(int value, int least, int most) {
        if (value < least || value > most) {
            throw new IllegalArgumentException("a number is out of range");
        }
    }

    private Resin resinOf(int number) {
        Resin found = number < 0 || number >= resins.length ? null : resins[number];
        if (found == null) {
            throw new IndexOutOfBoundsException("no such resin");
        }
        return found;
    }

    private Lot lotOf(int index) {
        Lot found = dryer.find(index);
        if (found == null) {
            throw new IndexOutOfBoundsException("no such lot");
        }
        return found;
    }

    private Mould mouldOf(int number) {
        Mould found = number < 0 || number >= moulds.length ? null : moulds[number];
        if (found == null) {
            throw new IndexOutOfBoundsException("no such mould");
        }
        return found;
    }

    private static Cavity cavityOf(Mould mould, int number) {
        Cavity[] row = mould.cavities;
        Cavity found = number < 0 || number >= row.length ? null : row[number];
        if (found == null) {
            throw new IndexOutOfBoundsException("no such cavity");
        }
        return found;
    }

    private Machine machineOf(int number) {
        Machine found = number < 0 || number >= machines.length ? null : machines[number];
        if (found == null) {
            throw new IndexOutOfBoundsException("no such machine");
        }
        return found;
    }

    private Order orderOf(int number) {
        Order found = number < 0 || number >= orders.length ? null : orders[number];
        if (found == null) {
            throw new IndexOutOfBoundsException("no such order");
        }
        return found;
    }

    private static int dividedUp(int whole, int by) {
        return by < 1 ? 0 : (whole + by - 1) / by;
    }

    // ---- how an hour passes

    private int passOneHour() {
        int parts = 0;
        for (int i = 0; i < machines.length; i++) {
            Machine machine = machines[i];
            if (machine != null) {
                parts += workOneHour(machine);
            }
        }
        dryer.dryOneHour();
        hoursPassed++;
        return parts;
    }

    private int workOneHour(Machine machine) {
        Order work = machine.work;
        if (work == null || machine.mould != work.mould) {
            return 0;
        }
        int lackedBefore = work.lacking;
        int most = work.mould.shotsOfHour();
        boolean made = true;
        for (int shot = 0; shot < most && made && work.isOpen(); shot++) {
            made = makeShot(work);
        }
        return lackedBefore - work.lacking;
    }

    /** Answers whether the shot was made; if it was not, nothing has changed. */
    private boolean makeShot(Order work) {
        Mould mould = work.mould;
        Resin resin = work.resin;
        int made = mould.openCavities();
        if (made < 1) {
            return false;
        }
        int grams = made * mould.part + mould.sprue;
        int regrind = Math.min(grams * work.share / PERCENT, resin.regrindGrams);
        if (dryer.dryGrams(resin) < grams - regrind) {
            return false;
        }
        dryer.draw(resin, grams - regrind);
        mould.makeParts();
        int got = Math.min(made, work.lacking);
        int waste = mould.sprue + (made - got) * mould.part;
        resin.regrindGrams += waste - regrind;
        work.keepShot(got, regrind, grams);
        allShots++;
        allParts += got;
        allGrams += grams;
        allRegrind += regrind;
        return true;
    }

    // ---- the things of the shop

    private static final class Resin {
        final int hoursOfDrying;
        int regrindGrams;

        Resin(int hoursOfDrying) {
            this.hoursOfDrying = hoursOfDrying;
        }
    }

    private static final class Lot {
        final Resin resin;
        int grams;
        int hoursDried;

        Lot(Resin resin, int grams) {
            this.resin = resin;
            this.grams = grams;
        }

        int hoursLeft() {
            return Math.max(resin.hoursOfDrying - hoursDried, 0);
        }

        boolean isDryOf(Resin wanted) {
            return resin == wanted && hoursLeft() == 0;
        }
    }

    /** The lots stand without gaps, in the order in which they were put in. */
    private static final class Dryer {
        final Lot[] row;
        int count;

        Dryer() {
            row = new Lot[MOST_LOTS];
        }

        boolean isFull() {
            return count >= row.length;
        }

        Lot find(int index) {
            return index < 0 || index >= row.length ? null : row[index];
        }

        void put(Lot lot) {
            if (count >= 0 && count < row.length) {
                row[count] = lot;
                count++;
            }
        }

        void takeOut(int index) {
            int last = row.length - 1;
            if (index < 0 || index > last) {
                return;
            }
            for (int i = index; i < last; i++) {
                row[i] = row[i + 1];
            }
            row[last] = null;
            count--;
        }

        int dryGrams(Resin resin) {
            int grams = 0;
            for (int i = 0; i < row.length; i++) {
                Lot lot = row[i];
                if (lot != null && lot.isDryOf(resin)) {
                    grams += lot.grams;
                }
            }
            return grams;
        }

        void draw(Resin resin, int grams) {
            int left = grams;
            for (int i = 0; i < row.length; i++) {
                Lot lot = row[i];
                if (lot != null && lot.isDryOf(resin)) {
                    int taken = Math.min(left, lot.grams);
                    lot.grams -= taken;
                    left -= taken;
                }
            }
        }

        void dryOneHour() {
            // From the last lot on, since taking one out moves those behind it.
            for (int i = row.length - 1; i >= 0; i--) {
                Lot lot = row[i];
                if (lot != null) {
                    lot.hoursDried++;
                    if (lot.grams < 1) {
                        takeOut(i);
                    }
                }
            }
        }
    }

    private static final class Cavity {
        boolean blocked;
        int made;
        int life;

        Cavity() {
            life = MOST_LIFE;
        }

        void failIfWorn() {
            if (made >= life) {
                blocked = true;
            }
        }
    }

    private static final class Mould {
        final int number;
        final Cavity[] cavities;
        final int part;
        final int sprue;
        final int force;
        final int cycle;
        boolean mounted;

        Mould(int number, int cavityCount, int part, int sprue, int force, int cycle) {
            this.number = number;
            this.part = part;
            this.sprue = sprue;
            this.force = force;
            this.cycle = cycle;
            cavities = new Cavity[Math.max(cavityCount, 0)];
            for (int i = 0; i < cavities.length; i++) {
                cavities[i] = new Cavity();
            }
        }

        int openCavities() {
            int open = 0;
            for (int i = 0; i < cavities.length; i++) {
                Cavity cavity = cavities[i];
                if (cavity != null && !cavity.blocked) {
                    open++;
                }
            }
            return open;
        }

        void makeParts() {
            for (int i = 0; i < cavities.length; i++) {
                Cavity cavity = cavities[i];
                if (cavity != null && !cavity.blocked) {
                    cavity.made++;
                    cavity.failIfWorn();
                }
            }
        }

        int shotsOfHour() {
            return cycle < 1 ? 0 : SECONDS_OF_HOUR / cycle;
        }
    }

    private static final class Machine {
        final int force;
        Mould mould;
        Order work;

        Machine(int force) {
            this.force = force;
        }
    }

    private static final class Order {
        final Mould mould;
        final Resin resin;
        final int share;
        // An order gets a part at least by each shot, so it has no more shots than parts.
        final int[] regrindOfShots;
        int lacking;
        int shotCount;
        long regrindKept;
        int topShare;

        Order(Mould mould, Resin resin, int parts, int share) {
            this.mould = mould;
            this.resin = resin;
            this.share = share;
            lacking = parts;
            regrindOfShots = new int[Math.max(parts, 0)];
        }

        boolean isOpen() {
            return lacking > 0;
        }

        void keepShot(int parts, int regrind, int grams) {
            lacking -= parts;
            if (shotCount >= 0 && shotCount < regrindOfShots.length) {
                regrindOfShots[shotCount] = regrind;
                shotCount++;
            }
            regrindKept += regrind;
            if (grams > 0) {
                topShare = Math.max(topShare, regrind * PERCENT / grams);
            }
        }

        long regrindAdded() {
            long sum = 0;
            int end = Math.min(shotCount, regrindOfShots.length);
            for (int shot = 0; shot < end; shot++) {
                sum += regrindOfShots[shot];
            }
            return sum;
        }
    }
}
