import java.util.ArrayList;
import java.util.Arrays;

/** A board that parts newsprint among papers, month by month, by orders that are texts. */
public final class PaperBoard {
    public static final int NONE = -1;
    public static final int NOTHING = -2000000000;

    private static final int MAX_MONTH = 600;
    private static final int MAX_MONTHS_AT_ONCE = 24;
    private static final int MAX_PAPERS = 12;
    private static final int MAX_REELS = 80;
    private static final int MAX_WARDS = 5;
    private static final int MAX_ORDERS = 10;
    private static final int MAX_APPEALS = 20;
    private static final int MAX_TAPE = 300;

    private static final int KINDS = 3;
    private static final int MAX_BASE = 100000;
    private static final int MAX_COPIES = 1000;
    private static final int MIN_PAGES = 2;
    private static final int MAX_PAGES = 64;
    private static final int MAX_PRICE = 100;
    private static final int MAX_POINTS = 1000;
    private static final int MAX_LOYAL = 100;
    private static final int MAX_READERS = 1000;
    private static final int MAX_KILOGRAMS = 100000;
    private static final int MAX_USED = 1000000;
    private static final int MAX_PART = 1000000;
    private static final int MAX_BEST_PRICE = 60;

    private static final int QUEUED = 0;
    private static final int ADMITTED = 1;
    private static final int GONE = 2;

    private static final int STORE = -1;
    private static final int STOLEN = -2;

    private static final int WAY_BASE = 0;
    private static final int WAY_POINTS = 1;
    private static final int WAY_BIDS = 3;

    private static final int FAULT_PLACE = 1;
    private static final int FAULT_NUMBER = 2;
    private static final int FAULT_MANY = 3;

    // What stands in a formula: numbers as they are, then names, then what joins the values ahead.
    private static final int NAME_BASE = -1;
    private static final int NAME_COPIES = -2;
    private static final int NAME_PAGES = -3;
    private static final int NAME_PRICE = -4;
    private static final int NAME_KIND = -5;
    private static final int NAME_MONTH = -6;
    private static final int NAME_STOCK = -7;
    private static final int NAME_USED = -8;
    private static final int PLUS = -9;
    private static final int MINUS = -10;
    private static final int TIMES = -11;
    private static final int BY = -12;
    private static final int LESSER = -13;
    private static final int GREATER = -14;
    private static final int IF_BELOW = -15;
    private static final int IF_ABOVE = -16;
    private static final int IF_SAME = -17;

    private final ArrayList<Paper> papers = new ArrayList<Paper>();
    private final ArrayList<Reel> reels = new ArrayList<Reel>();
    private final ArrayList<Order> orders = new ArrayList<Order>();
    private final ArrayList<Appeal> appeals = new ArrayList<Appeal>();
    private final int[] readers = new int[MAX_WARDS];
    private int wards = 0;
    private int month = 0;
    private final Order plainOrder = new Order(0);
    private final Reader reader = new Reader();
    private final Values values = new Values();
    private final Parting parting = new Parting();
    private final Ledger ledger = new Ledger();
    private final Offer offer = new Offer();

    public PaperBoard() {
    }

    // ---- papers

    public int paper(int kind, int base, int copies, int pages, int price)
            throws IllegalArgumentException, IllegalStateException {
        need(within(kind, 0, KINDS - 1) && within(base, 0, MAX_BASE));
        need(within(copies, 0, MAX_COPIES) && within(pages, MIN_PAGES, MAX_PAGES));
        need(within(price, 1, MAX_PRICE));
        if (papers.size() >= MAX_PAPERS) {
            throw new IllegalStateException("there are 12 papers");
        }
        papers.add(new Paper(kind, base, copies, pages, price));
        return papers.size() - 1;
    }

    public int set(int paper, int what, int v) throws IndexOutOfBoundsException, IllegalArgumentException {
        Paper it = paperAt(paper);
        need(settable(what, v));
        if (it.state == GONE) {
            return NONE;
        }
        return it.change(what, v);
    }

    public int told(int paper, int what) throws IndexOutOfBoundsException, IllegalArgumentException {
        Paper it = paperAt(paper);
        need(within(what, 0, 10));
        return it.field(what);
    }

    // ---- reels

    public int reel(int weight, int wet) throws IllegalArgumentException {
        need(within(weight, 1, 2000) && within(wet, 0, 500));
        if (reels.size() >= MAX_REELS) {
            return NONE;
        }
        reels.add(new Reel(weight * (1000 - wet) / 1000));
        return reels.size() - 1;
    }

    public int where(int reel) throws IndexOutOfBoundsException {
        return reelAt(reel).place;
    }

    public int steal(int reel) throws IndexOutOfBoundsException {
        Reel it = reelAt(reel);
        int place = it.place;
        if (place == STOLEN) {
            return -3;
        }
        if (place >= 0 && place < papers.size()) {
            Paper owner = papers.get(place);
            owner.stock = Math.max(owner.stock - it.dry, 0);
        }
        it.place = STOLEN;
        return place;
    }

    public int find(int reel) throws IndexOutOfBoundsException {
        Reel it = reelAt(reel);
        if (it.place != STOLEN) {
            return NONE;
        }
        it.place = STORE;
        return it.dry;
    }

    // ---- wards

    public int ward(int readers) throws IllegalArgumentException {
        need(within(readers, 0, MAX_READERS));
        if (wards < 0 || wards >= this.readers.length) {
            return NONE;
        }
        this.readers[wards] = readers;
        wards++;
        return wards - 1;
    }

    public int loyal(int ward, int paper, int part) throws IndexOutOfBoundsException, IllegalArgumentException {
        Paper it = paperAt(paper);
        if (ward < 0 || ward >= wards || ward >= it.loyal.length) {
            throw new IndexOutOfBoundsException("no such ward");
        }
        need(within(part, 0, MAX_LOYAL));
        int was = it.loyal[ward];
        it.loyal[ward] = part;
        return was;
    }

    public int demand(int paper, int price) throws IndexOutOfBoundsException, IllegalArgumentException {
        Paper it = paperAt(paper);
        need(within(price, 1, MAX_PRICE));
        return demandOf(it, price);
    }

    // ---- orders

    public int feed(int a, int b, int c, int d, int e) {
        if (reader.taped + 20 > MAX_TAPE) {
            return NONE;
        }
        reader.tapeNumber(a);
        reader.tapeNumber(b);
        reader.tapeNumber(c);
        reader.tapeNumber(d);
        reader.tapeNumber(e);
        return reader.taped;
    }

    public int order(int month, int n) throws IllegalArgumentException {
        need(within(month, 0, MAX_MONTH) && within(n, 0, reader.taped));
        reader.empty();
        // Of an order for which there is no room no text is looked at, so it has no fault either.
        if (orders.size() >= MAX_ORDERS) {
            return NONE;
        }
        Order read = reader.read(month, n);
        if (read == null) {
            return reader.fault - 10;
        }
        orders.add(read);
        return orders.size() - 1;
    }

    public int fault() {
        return reader.place;
    }

    public int force(int month) throws IllegalArgumentException {
        need(within(month, 0, MAX_MONTH));
        return numberInForce(month);
    }

    public int tells(int paper, int what) throws IndexOutOfBoundsException, IllegalArgumentException {
        Paper it = paperAt(paper);
        need(within(what, 0, 8));
        Order order = orderNow();
        switch (what) {
            case 0: return partValue(order, it);
            case 1: return order.pagesFor(it.kind);
            case 2: return priceValue(order, it, it.pages);
            case 3: return order.fine;
            case 4: return order.newcomers;
            case 5: return order.swapped;
            case 6: return order.waste;
            case 7: return order.least;
            default: return order.way;
        }
    }

    // ---- parting and months

    public int bid(int paper, int kilograms, int coins) throws IndexOutOfBoundsException, IllegalArgumentException {
        Paper it = paperAt(paper);
        need(within(kilograms, 1, MAX_KILOGRAMS) && within(coins, 0, 100));
        if (!it.isAdmitted()) {
            return NONE;
        }
        it.asks = kilograms;
        it.offers = coins;
        return 1;
    }

    public int parted(int paper, int way) throws IndexOutOfBoundsException, IllegalArgumentException {
        Paper it = paperAt(paper);
        need(way == NONE || within(way, WAY_BASE, WAY_BIDS));
        if (!it.isAdmitted()) {
            return 0;
        }
        Order order = orderNow();
        partPool(order, way == NONE ? order.way : way);
        return parting.shareOf(paper);
    }

    public int months(int months) throws IllegalArgumentException, IllegalStateException {
        need(within(months, 0, MAX_MONTHS_AT_ONCE));
        if (month + months > MAX_MONTH) {
            throw new IllegalStateException("above month 600");
        }
        for (int i = 0; i < months; i++) {
            goBy();
        }
        return month;
    }

    // ---- swaps and merging

    public int swap(int paper, int other, int kilograms) throws IndexOutOfBoundsException, IllegalArgumentException {
        Paper giver = paperAt(paper);
        Paper taker = paperAt(other);
        need(within(kilograms, 1, MAX_KILOGRAMS));
        if (!areTwoAdmitted(paper, other)) {
            return -1;
        }
        if (giver.stock < kilograms) {
            return -2;
        }
        int hundredths = orderNow().swapped;
        if (hundredths == 0) {
            return -3;
        }
        int comes = kilograms * hundredths / 100;
        giver.stock -= kilograms;
        taker.stock += comes;
        taker.takeFrom(paper, comes);
        return comes;
    }

    public int netted(int paper, int other) throws IndexOutOfBoundsException {
        Paper one = paperAt(paper);
        Paper another = paperAt(other);
        return one.tookFrom(other) - another.tookFrom(paper);
    }

    public int merge(int paper, int other) throws IndexOutOfBoundsException {
        Paper first = paperAt(paper);
        Paper second = paperAt(other);
        if (!areTwoAdmitted(paper, other)) {
            return NONE;
        }
        first.takeOver(second);
        for (int i = 0; i < reels.size(); i++) {
            Reel reel = reels.get(i);
            if (reel.place == other) {
                reel.place = paper;
            }
        }
        return 1;
    }

    public int gain(int paper, int other) throws IndexOutOfBoundsException {
        Paper first = paperAt(paper);
        Paper second = paperAt(other);
        if (!areTwoAdmitted(paper, other)) {
            return NOTHING;
        }
        Order order = orderNow();
        partPool(order, order.way);
        int asTheyAre = parting.shareOf(paper) + parting.shareOf(other);
        int base = first.base;
        int copies = first.copies;
        int stock = first.stock;
        first.addSize(second);
        second.state = GONE;
        partPool(order, order.way);
        first.base = base;
        first.copies = copies;
        first.stock = stock;
        second.state = ADMITTED;
        return parting.shareOf(paper) - asTheyAre;
    }

    // ---- breaches, sources, appeals

    public int breach(int paper, int what) throws IndexOutOfBoundsException, IllegalArgumentException {
        Paper it = paperAt(paper);
        need(within(what, 0, 4));
        return it.breaches.field(what);
    }

    public int source(int paper, int from, int to) throws IndexOutOfBoundsException, IllegalArgumentException {
        Paper it = paperAt(paper);
        need(within(from, 0, MAX_BASE) && within(to, from, MAX_BASE));
        return it.sources.add(from, to);
    }

    public int borne(int paper, int what) throws IndexOutOfBoundsException, IllegalArgumentException {
        Paper it = paperAt(paper);
        need(within(what, 0, 3));
        return it.sources.field(what);
    }

    public int appeal(int paper, int base) throws IndexOutOfBoundsException, IllegalArgumentException {
        Paper it = paperAt(paper);
        need(within(base, 0, MAX_BASE));
        if (appeals.size() >= MAX_APPEALS) {
            return -1;
        }
        if (!it.isAdmitted()) {
            return -2;
        }
        appeals.add(new Appeal(it, base));
        return appeals.size() - 1;
    }

    public int alike(int appeal) throws IndexOutOfBoundsException {
        Appeal it = appealAt(appeal);
        int found = NONE;
        int least = 0;
        for (int i = 0; i < appeal && i < appeals.size(); i++) {
            Appeal earlier = appeals.get(i);
            int far = it.farFrom(earlier);
            if (earlier.isGranted() && (found == NONE || far <= least)) {
                found = i;
                least = far;
            }
        }
        return found;
    }

    public int apart(int appeal, int other) throws IndexOutOfBoundsException {
        Appeal one = appealAt(appeal);
        Appeal another = appealAt(other);
        return one.farFrom(another);
    }

    public int grant(int appeal, int month) throws IndexOutOfBoundsException, IllegalArgumentException {
        Appeal it = appealAt(appeal);
        need(within(month, this.month, MAX_MONTH));
        if (it.isGranted()) {
            return NONE;
        }
        it.from = month;
        return 1;
    }

    // ---- what is best, and what was

    public int best(int paper, int what) throws IndexOutOfBoundsException, IllegalArgumentException {
        Paper it = paperAt(paper);
        need(within(what, 0, 3));
        if (!it.isAdmitted()) {
            return NOTHING;
        }
        findBest(it, orderNow());
        return offer.field(what);
    }

    public int correct(int paper, int month, int used) throws IndexOutOfBoundsException, IllegalArgumentException {
        paperAt(paper);
        need(within(used, 0, MAX_USED));
        return ledger.tellAnew(paper, month, used, this.month);
    }

    public int row(int paper, int month, int what, int known)
            throws IndexOutOfBoundsException, IllegalArgumentException {
        paperAt(paper);
        need(within(what, 0, 3));
        if (known <= month || !ledger.has(paper, month)) {
            return NOTHING;
        }
        return what == 1 ? ledger.usedAsKnown(paper, month, known) : ledger.cell(paper, month, what);
    }

    public int count(int what) {
        switch (what) {
            case 0: return month;
            case 1: return papers.size();
            case 2: return papersThatAre(ADMITTED);
            case 3: return papersThatAre(QUEUED);
            case 4: return reels.size();
            case 5: return pool();
            case 6: return orders.size();
            case 7: return wards;
            case 8: return appeals.size();
            case 9: return ledger.toldAnew;
            case 10: return reader.taped;
            case 11: return reelsStolen();
            default: return NONE;
        }
    }

    // ---- what the calls above are made of

    private static boolean within(int v, int least, int most) {
        return v >= least && v <= most;
    }

    private static int bounded(int v, int least, int most) {
        return Math.max(least, Math.min(v, most));
    }

    private static void need(boolean holds) throws IllegalArgumentException {
        if (!holds) {
            throw new IllegalArgumentException("a number is none such");
        }
    }

    private static boolean settable(int what, int v) {
        switch (what) {
            case 0: return within(v, 0, MAX_COPIES);
            case 1: return within(v, MIN_PAGES, MAX_PAGES);
            case 2: return within(v, 1, MAX_PRICE);
            case 3: return within(v, 0, MAX_POINTS);
            default: return false;
        }
    }

    /** What a run of so many hundreds of copies takes. */
    private static int kilogramsFor(int copies, int pages) {
        return copies * pages * 3 / 10;
    }

    /** The most hundreds of copies for which so many kilograms do: the cut of a run is in its favour. */
    private static int mostCopies(int kilograms, int pages) {
        if (kilograms < 0 || pages <= 0) {
            return 0;
        }
        return (int) ((kilograms * 10L + 9) / (pages * 3L));
    }

    private Paper paperAt(int paper) throws IndexOutOfBoundsException {
        if (paper < 0 || paper >= papers.size()) {
            throw new IndexOutOfBoundsException("no such paper");
        }
        return papers.get(paper);
    }

    private Reel reelAt(int reel) throws IndexOutOfBoundsException {
        if (reel < 0 || reel >= reels.size()) {
            throw new IndexOutOfBoundsException("no such reel");
        }
        return reels.get(reel);
    }

    private Appeal appealAt(int appeal) throws IndexOutOfBoundsException {
        if (appeal < 0 || appeal >= appeals.size()) {
            throw new IndexOutOfBoundsException("no such appeal");
        }
        return appeals.get(appeal);
    }

    /** Whether both are admitted, and not one and the same. */
    private boolean areTwoAdmitted(int paper, int other) {
        return paper != other && isAdmittedAt(paper) && isAdmittedAt(other);
    }

    private boolean isAdmittedAt(int paper) {
        return paper >= 0 && paper < papers.size() && papers.get(paper).isAdmitted();
    }

    private int papersThatAre(int state) {
        int found = 0;
        for (int i = 0; i < papers.size(); i++) {
            if (papers.get(i).state == state) {
                found++;
            }
        }
        return found;
    }

    private int reelsStolen() {
        int found = 0;
        for (int i = 0; i < reels.size(); i++) {
            if (reels.get(i).place == STOLEN) {
                found++;
            }
        }
        return found;
    }

    private int pool() {
        int kilograms = 0;
        for (int i = 0; i < reels.size(); i++) {
            Reel reel = reels.get(i);
            if (reel.place == STORE) {
                kilograms += reel.dry;
            }
        }
        return kilograms;
    }

    private int demandOf(Paper paper, int price) {
        int all = 0;
        for (int i = 0; i < wards && i < readers.length && i < paper.loyal.length; i++) {
            all += readers[i] * paper.loyal[i] * (100 - price) / 10000;
        }
        return all;
    }

    private int numberInForce(int when) {
        int found = NONE;
        int latest = 0;
        for (int i = 0; i < orders.size(); i++) {
            int from = orders.get(i).from;
            if (from <= when && (found == NONE || from >= latest)) {
                found = i;
                latest = from;
            }
        }
        return found;
    }

    private Order orderNow() {
        int number = numberInForce(month);
        return number >= 0 && number < orders.size() ? orders.get(number) : plainOrder;
    }

    private int partValue(Order order, Paper paper) {
        return bounded(values.of(order.part, paper, paper.pages, month), 0, MAX_PART);
    }

    /** The price that an order tells a paper if it had so many pages; NONE if it tells none. */
    private int priceValue(Order order, Paper paper, int pages) {
        if (order.price == null) {
            return NONE;
        }
        return bounded(values.of(order.price, paper, pages, month), 1, MAX_PRICE);
    }

    // ---- how the pool is parted, and how a month goes by

    private void partPool(Order order, int way) {
        if (way == WAY_BIDS) {
            parting.byBids(papers, pool());
            return;
        }
        for (int i = 0; i < papers.size(); i++) {
            Paper paper = papers.get(i);
            parting.weigh(i, paper.isAdmitted() ? weightOf(order, paper, way) : 0);
        }
        parting.byWeights(papers, pool(), order.least, order.keep);
    }

    private int weightOf(Order order, Paper paper, int way) {
        if (way == WAY_BASE) {
            return partValue(order, paper);
        }
        return way == WAY_POINTS ? paper.points : 1;
    }

    private void goBy() {
        Order order = orderNow();
        takeGrants();
        admit(order.newcomers);
        partPool(order, order.way);
        creditShares(order.way);
        giveReels();
        ledger.open(month);
        for (int i = 0; i < papers.size(); i++) {
            Paper paper = papers.get(i);
            if (paper.isAdmitted()) {
                runMonth(order, paper);
                ledger.write(month, i, parting.shareOf(i), paper);
            }
            paper.forgetSwaps();
        }
        month++;
    }

    private void takeGrants() {
        for (int i = 0; i < appeals.size(); i++) {
            Appeal appeal = appeals.get(i);
            if (appeal.from == month && appeal.paper.isAdmitted()) {
                appeal.paper.base = appeal.asked;
            }
        }
    }

    private void admit(int most) {
        int left = most;
        for (int i = 0; i < papers.size() && left > 0; i++) {
            Paper paper = papers.get(i);
            if (paper.state == QUEUED) {
                paper.state = ADMITTED;
                left--;
            }
        }
    }

    private void creditShares(int way) {
        for (int i = 0; i < papers.size(); i++) {
            Paper paper = papers.get(i);
            if (paper.isAdmitted()) {
                int share = parting.shareOf(i);
                paper.right += share;
                if (way == WAY_BIDS) {
                    paper.coins -= share * paper.offers;
                }
            }
            paper.asks = 0;
            paper.offers = 0;
        }
    }

    private void giveReels() {
        for (int i = 0; i < reels.size(); i++) {
            Reel reel = reels.get(i);
            if (reel.place == STORE) {
                int taker = mostOwed();
                if (taker < 0 || taker >= papers.size()) {
                    return;
                }
                Paper paper = papers.get(taker);
                paper.stock += reel.dry;
                paper.right -= reel.dry;
                reel.place = taker;
            }
        }
    }

    /** The admitted paper with the greatest right; NONE if nobody has one above 0. */
    private int mostOwed() {
        int found = NONE;
        int greatest = 0;
        for (int i = 0; i < papers.size(); i++) {
            Paper paper = papers.get(i);
            if (paper.isAdmitted() && paper.right > greatest) {
                found = i;
                greatest = paper.right;
            }
        }
        return found;
    }

    /** A paper prints, sells, pays for its breaches and has of its waste what comes back. */
    private void runMonth(Order order, Paper paper) {
        int printed = Math.min(paper.copies, mostCopies(paper.stock, paper.pages));
        int used = kilogramsFor(printed, paper.pages);
        paper.stock -= used;
        paper.coins += Math.min(printed, demandOf(paper, paper.price)) * paper.price;
        if (printed > 0) {
            payBreaches(order, paper);
        }
        paper.stock += used / 20 * order.waste / 100;
        // Only now, as the price told above goes by what was used in the month ahead of this one.
        paper.used = used;
    }

    private void payBreaches(Order order, Paper paper) {
        int above = paper.pages - order.pagesFor(paper.kind);
        int price = priceValue(order, paper, paper.pages);
        int which = 0;
        if (above > 0) {
            which |= 1;
            paper.coins -= above * order.fine;
        }
        if (price != NONE && price != paper.price) {
            which |= 2;
            paper.coins -= order.fine;
        }
        if (which != 0) {
            int clause = above > 0 ? order.pagesClauseFor(paper.kind) : order.priceClause;
            paper.breaches.add(month, which, numberInForce(month), clause);
        }
    }

    private void findBest(Paper paper, Order order) {
        int kilograms = paper.stock + Math.max(paper.right, 0);
        int mostPages = order.pagesFor(paper.kind);
        offer.clear();
        if (order.price != null) {
            for (int pages = MIN_PAGES; pages <= mostPages; pages += 2) {
                int price = priceValue(order, paper, pages);
                offer.consider(pages, price, Math.min(demandOf(paper, price), mostCopies(kilograms, pages)));
            }
            return;
        }
        for (int price = 1; price <= MAX_BEST_PRICE; price++) {
            int demanded = demandOf(paper, price);
            for (int pages = MIN_PAGES; pages <= mostPages; pages += 2) {
                offer.consider(pages, price, Math.min(demanded, mostCopies(kilograms, pages)));
            }
        }
    }

    /** A paper as it stands now. */
    private static final class Paper {
        final int kind;
        int base;
        int copies;
        int pages;
        int price;
        int points = 0;
        int coins = 0;
        int stock = 0;
        int right = 0;
        int state = QUEUED;
        int used = 0;
        int asks = 0; // the kilograms of its bid; 0 without one
        int offers = 0; // its coins for each of them
        final int[] loyal = new int[MAX_WARDS];
        final int[] took = new int[MAX_PAPERS]; // in this month's swaps, by whom it came from
        final Breaches breaches = new Breaches();
        final Sources sources = new Sources();

        Paper(int kind, int base, int copies, int pages, int price) {
            this.kind = kind;
            this.base = base;
            this.copies = copies;
            this.pages = pages;
            this.price = price;
        }

        boolean isAdmitted() {
            return state == ADMITTED;
        }

        int field(int what) {
            switch (what) {
                case 0: return kind;
                case 1: return base;
                case 2: return copies;
                case 3: return pages;
                case 4: return price;
                case 5: return points;
                case 6: return coins;
                case 7: return stock;
                case 8: return right;
                case 9: return state;
                default: return used;
            }
        }

        int change(int what, int v) {
            int was;
            switch (what) {
                case 0: was = copies; copies = v; break;
                case 1: was = pages; pages = v; break;
                case 2: was = price; price = v; break;
                default: was = points; points = v; break;
            }
            return was;
        }

        void takeFrom(int other, int kilograms) {
            if (other >= 0 && other < took.length) {
                took[other] += kilograms;
            }
        }

        int tookFrom(int other) {
            return other >= 0 && other < took.length ? took[other] : 0;
        }

        void forgetSwaps() {
            Arrays.fill(took, 0);
        }

        /** What of a merger changes the weight of the first one. */
        void addSize(Paper other) {
            base = Math.min(base + other.base, MAX_BASE);
            copies = Math.min(copies + other.copies, MAX_COPIES);
            stock += other.stock;
        }

        void takeOver(Paper other) {
            addSize(other);
            right += other.right;
            coins += other.coins;
            for (int i = 0; i < loyal.length && i < other.loyal.length; i++) {
                loyal[i] = Math.min(loyal[i] + other.loyal[i], MAX_LOYAL);
            }
            other.leave();
        }

        private void leave() {
            state = GONE;
            base = 0;
            copies = 0;
            stock = 0;
            right = 0;
            coins = 0;
            Arrays.fill(loyal, 0);
        }
    }

    /** How often a paper broke an order, and its latest breaches. */
    private static final class Breaches {
        int all = 0;
        int when = NONE;
        int which = 0; // bits: 1 pages, 2 price
        int byOrder = NONE;
        int byClause = NONE;

        void add(int month, int which, int order, int clause) {
            all += Integer.bitCount(which);
            this.when = month;
            this.which = which;
            this.byOrder = order;
            this.byClause = clause;
        }

        int field(int what) {
            switch (what) {
                case 0: return all;
                case 1: return when;
                case 2: return which;
                case 3: return byOrder;
                default: return byClause;
            }
        }
    }

    /** The spans in which sources put a paper's base. */
    private static final class Sources {
        static final int MOST = 8;
        final int[] from = new int[MOST];
        final int[] to = new int[MOST];
        int size = 0;

        int add(int first, int last) {
            if (size < 0 || size >= MOST) {
                return NONE;
            }
            from[size] = first;
            to[size] = last;
            size++;
            return size;
        }

        int field(int what) {
            if (size == 0) {
                return NONE;
            }
            int first = mostBorne();
            switch (what) {
                case 0: return first;
                case 1: return lastAlike(first);
                case 2: return bearers(first);
                default: return rejected(first);
            }
        }

        private boolean bears(int source, int number) {
            return source >= 0 && source < MOST && from[source] <= number && number <= to[source];
        }

        private int bearers(int number) {
            int found = 0;
            for (int i = 0; i < size; i++) {
                if (bears(i, number)) {
                    found++;
                }
            }
            return found;
        }

        /** The first number in the most spans: where one of them begins, as only there more can begin to bear. */
        private int mostBorne() {
            int found = 0;
            int most = 0;
            for (int i = 0; i < size && i < MOST; i++) {
                int here = bearers(from[i]);
                if (here > most || here == most && from[i] < found) {
                    found = from[i];
                    most = here;
                }
            }
            return found;
        }

        private int lastAlike(int number) {
            int last = MAX_BASE;
            for (int i = 0; i < size && i < MOST; i++) {
                if (bears(i, number)) {
                    last = Math.min(last, to[i]);
                }
            }
            return last;
        }

        private int rejected(int number) {
            int bits = 0;
            for (int i = 0; i < size && i < MOST; i++) {
                if (!bears(i, number)) {
                    bits |= 1 << i;
                }
            }
            return bits;
        }
    }

    /** A reel: what it weighs dry, and where it is: a paper's number, STORE or STOLEN. */
    private static final class Reel {
        final int dry;
        int place = STORE;

        Reel(int dry) {
            this.dry = dry;
        }
    }

    /** An appeal, with its paper as it was then. */
    private static final class Appeal {
        final Paper paper;
        final int asked;
        final int base;
        final int copies;
        int from = NONE; // the month from which it is granted

        Appeal(Paper paper, int asked) {
            this.paper = paper;
            this.asked = asked;
            this.base = paper.base;
            this.copies = paper.copies;
        }

        boolean isGranted() {
            return from != NONE;
        }

        int farFrom(Appeal other) {
            int kinds = paper.kind == other.paper.kind ? 0 : 10000;
            return Math.abs(base - other.base) + Math.abs(copies - other.copies) * 100 + kinds;
        }
    }

    /** What an order tells; as it is made, what holds without one. */
    private static final class Order {
        final int from;
        int[] part = new int[] {NAME_BASE};
        int[] price = null;
        int priceClause = NONE;
        final int[] pages = new int[] {MAX_PAGES, MAX_PAGES, MAX_PAGES};
        final int[] pagesClause = new int[] {NONE, NONE, NONE};
        int fine = 10;
        int newcomers = 12;
        int swapped = 100;
        int waste = 0;
        int least = 0;
        boolean keep = false;
        int way = WAY_BASE;

        Order(int from) {
            this.from = from;
        }

        int pagesFor(int kind) {
            return kind >= 0 && kind < pages.length ? pages[kind] : MAX_PAGES;
        }

        int pagesClauseFor(int kind) {
            return kind >= 0 && kind < pagesClause.length ? pagesClause[kind] : NONE;
        }

        void tellPages(int kind, int most, int clause) {
            if (kind >= 0 && kind < pages.length && kind < pagesClause.length) {
                pages[kind] = most;
                pagesClause[kind] = clause;
            }
        }
    }

    /** Holds the tape and reads orders from it, from left to right, up to the first fault. */
    private static final class Reader {
        static final int MOST_CLAUSES = 12;
        static final int MOST_OPEN = 8;
        static final int MOST_NUMBER = 9999;
        // What stands next, where it is no sign of one byte.
        static final int END = -1;
        static final int WORD = 'a';
        static final int NUMBER = '0';
        static final int BROKEN = -2;

        final int[] tape = new int[MAX_TAPE];
        int taped = 0;
        int size = 0; // of the text that is read
        int sign = END; // what stands next: a sign, or one of the above
        int at = 0; // its first byte
        int behind = 0; // the byte behind it
        int fault = 0;
        int place = NONE; // of the fault
        final int[] code = new int[MAX_TAPE]; // the formula that is read, values ahead of what joins them
        int codes = 0;

        void tapeNumber(int number) {
            for (int shift = 24; shift >= 0 && taped >= 0 && taped < tape.length; shift -= 8) {
                tape[taped] = number >> shift & 255;
                taped++;
            }
        }

        /** Empties the tape, whose bytes can still be read; of the text that was read last nothing is known any more. */
        void empty() {
            taped = 0;
            fault = 0;
            place = NONE;
        }

        /** The order that the first bytes of the tape were, ahead of empty(); null if there is a fault. */
        Order read(int month, int bytes) {
            size = bytes;
            behind = 0;
            codes = 0;
            Order order = new Order(month);
            next();
            for (int clause = 0; clause <= MOST_CLAUSES && sign != END && fault == 0; clause++) {
                readClause(order, clause);
                take(';');
            }
            return fault == 0 ? order : null;
        }

        private void fail(int which) {
            if (fault == 0) {
                fault = which;
                place = at;
                sign = BROKEN;
            }
        }

        private int byteAt(int i) {
            return i >= 0 && i < size && i < tape.length ? tape[i] : END;
        }

        private static boolean isLetter(int b) {
            return b >= 'a' && b <= 'z';
        }

        private static boolean isDigit(int b) {
            return b >= '0' && b <= '9';
        }

        /** Goes on to what stands next. */
        private void next() {
            if (fault != 0) {
                return;
            }
            at = behind;
            while (at < size && byteAt(at) == ' ') {
                at++;
            }
            sign = byteAt(at);
            behind = Math.min(at + 1, size);
            if (isLetter(sign)) {
                sign = WORD;
                while (behind < size && isLetter(byteAt(behind))) {
                    behind++;
                }
            } else if (isDigit(sign)) {
                sign = NUMBER;
                while (behind < size && isDigit(byteAt(behind))) {
                    behind++;
                }
            }
        }

        private void take(int wanted) {
            if (sign == wanted) {
                next();
            } else {
                fail(FAULT_PLACE);
            }
        }

        /** Which of some words, with a blank between them, stands next; NONE if none of them does. */
        private int wordAmong(String words) {
            if (sign != WORD) {
                return NONE;
            }
            int index = 0;
            int start = 0;
            for (int i = 0; i <= words.length(); i++) {
                if (i == words.length() || words.charAt(i) == ' ') {
                    if (isWord(words, start, i)) {
                        return index;
                    }
                    index++;
                    start = i + 1;
                }
            }
            return NONE;
        }

        private boolean isWord(String words, int start, int end) {
            if (start < 0 || end > words.length() || end - start != behind - at) {
                return false;
            }
            for (int i = start; i < end; i++) {
                if (words.charAt(i) != byteAt(at + i - start)) {
                    return false;
                }
            }
            return true;
        }

        /** Takes one of some words: which; a fault, if it is none of them. */
        private int takeWord(String words) {
            int which = wordAmong(words);
            if (which == NONE) {
                fail(FAULT_PLACE);
            } else {
                next();
            }
            return which;
        }

        private int takeNumber(int least, int most) {
            if (sign != NUMBER) {
                fail(FAULT_PLACE);
                return least;
            }
            int number = 0;
            for (int i = at; i < behind; i++) {
                // Bounded, so that many digits don't wrap back into what is allowed.
                number = Math.min(number * 10 + byteAt(i) - '0', MOST_NUMBER + 1);
            }
            if (!within(number, least, most)) {
                fail(FAULT_NUMBER);
            }
            next();
            return number;
        }

        private void readClause(Order order, int clause) {
            int which = wordAmong("part pages price fine new swap waste least rest way");
            if (which == NONE) {
                fail(FAULT_PLACE);
                return;
            }
            if (clause >= MOST_CLAUSES) {
                fail(FAULT_MANY);
                return;
            }
            next();
            switch (which) {
                case 0: readSum(0); order.part = formula(); break;
                case 1: readPages(order, clause); break;
                case 2: readSum(0); order.price = formula(); order.priceClause = clause; break;
                case 3: order.fine = takeNumber(0, MOST_NUMBER); break;
                case 4: order.newcomers = takeNumber(0, MOST_NUMBER); break;
                case 5: order.swapped = takeNumber(0, 100); break;
                case 6: order.waste = takeNumber(0, 100); break;
                case 7: order.least = takeNumber(0, MOST_NUMBER); break;
                case 8: order.keep = takeWord("most keep") == 1; break;
                default: order.way = takeWord("base points alike bids"); break;
            }
        }

        private void readPages(Order order, int clause) {
            int kind = takeWord("daily weekly party");
            int most = takeNumber(MIN_PAGES, MAX_PAGES);
            order.tellPages(kind, most, clause);
        }

        /** The formula that was read, which makes place for another one. */
        private int[] formula() {
            int length = within(codes, 0, code.length) ? codes : 0;
            codes = 0;
            return Arrays.copyOf(code, length);
        }

        private void emit(int what) {
            if (codes >= 0 && codes < code.length) {
                code[codes] = what;
                codes++;
            }
        }

        private void readSum(int open) {
            readProduct(open);
            for (int i = 0; i < size && (sign == '+' || sign == '-'); i++) {
                int join = sign == '+' ? PLUS : MINUS;
                next();
                readProduct(open);
                emit(join);
            }
        }

        private void readProduct(int open) {
            readUnit(open);
            for (int i = 0; i < size && (sign == '*' || sign == '/'); i++) {
                int join = sign == '*' ? TIMES : BY;
                next();
                readUnit(open);
                emit(join);
            }
        }

        private void readUnit(int open) {
            if (sign == NUMBER) {
                emit(takeNumber(0, MOST_NUMBER));
            } else if (sign == '(') {
                readInBrackets(open);
            } else {
                readNamed(open);
            }
        }

        private void readNamed(int open) {
            int name = wordAmong("base copies pages price kind month stock used min max if");
            if (name == NONE) {
                fail(FAULT_PLACE);
                return;
            }
            next();
            switch (name) {
                case 8: readTwo(open); emit(LESSER); break;
                case 9: readTwo(open); emit(GREATER); break;
                case 10: readIf(open); break;
                default: emit(NAME_BASE - name); break;
            }
        }

        /** Takes "(", if no more than eight are open with it: whether it stands there. */
        private boolean openBracket(int open) {
            if (sign != '(') {
                fail(FAULT_PLACE);
            } else if (open >= MOST_OPEN) {
                fail(FAULT_MANY);
            }
            next();
            return fault == 0;
        }

        private void readInBrackets(int open) {
            if (openBracket(open)) {
                readSum(open + 1);
                take(')');
            }
        }

        private void readTwo(int open) {
            if (openBracket(open)) {
                readSum(open + 1);
                take(',');
                readSum(open + 1);
                take(')');
            }
        }

        private void readIf(int open) {
            if (openBracket(open)) {
                readSum(open + 1);
                int choice = takeRelation();
                readSum(open + 1);
                take(',');
                readSum(open + 1);
                take(',');
                readSum(open + 1);
                take(')');
                emit(choice);
            }
        }

        private int takeRelation() {
            int choice = IF_SAME;
            if (sign == '<') {
                choice = IF_BELOW;
            } else if (sign == '>') {
                choice = IF_ABOVE;
            } else if (sign != '=') {
                fail(FAULT_PLACE);
            }
            next();
            return choice;
        }
    }

    /** Finds the values of formulas. */
    private static final class Values {
        // Eight open brackets leave at most five values each to wait, and three stand outside.
        final int[] stack = new int[64];

        /** The value for a paper, as if it had so many pages. */
        int of(int[] code, Paper paper, int pages, int month) {
            int top = 0;
            for (int i = 0; i < code.length; i++) {
                int what = code[i];
                if (what >= NAME_USED) {
                    if (top < stack.length) {
                        stack[top] = what >= 0 ? what : named(what, paper, pages, month);
                        top++;
                    }
                } else if (what >= GREATER) {
                    if (top >= 2) {
                        top--;
                        stack[top - 1] = joined(what, stack[top - 1], stack[top]);
                    }
                } else if (top >= 4) {
                    top -= 3;
                    boolean holds = compared(what, stack[top - 1], stack[top]);
                    stack[top - 1] = holds ? stack[top + 1] : stack[top + 2];
                }
            }
            return top > 0 ? stack[top - 1] : 0;
        }

        private static int named(int name, Paper paper, int pages, int month) {
            switch (name) {
                case NAME_BASE: return paper.base;
                case NAME_COPIES: return paper.copies;
                case NAME_PAGES: return pages;
                case NAME_PRICE: return paper.price;
                case NAME_KIND: return paper.kind;
                case NAME_MONTH: return month;
                case NAME_STOCK: return paper.stock;
                default: return paper.used;
            }
        }

        private static int joined(int how, int a, int b) {
            switch (how) {
                case PLUS: return a + b;
                case MINUS: return a - b;
                case TIMES: return a * b;
                case BY: return b == 0 ? 0 : a / b;
                case LESSER: return Math.min(a, b);
                default: return Math.max(a, b);
            }
        }

        private static boolean compared(int how, int a, int b) {
            switch (how) {
                case IF_BELOW: return a < b;
                case IF_ABOVE: return a > b;
                default: return a == b;
            }
        }
    }

    /** Parts a pool among the papers that are admitted; the shares stand until the next parting. */
    private static final class Parting {
        final int[] share = new int[MAX_PAPERS];
        final int[] weight = new int[MAX_PAPERS];
        final long[] rest = new long[MAX_PAPERS]; // of its division; -1: gets none of what is over

        int shareOf(int paper) {
            return paper >= 0 && paper < share.length ? share[paper] : 0;
        }

        void weigh(int paper, int much) {
            if (paper >= 0 && paper < weight.length) {
                weight[paper] = much;
            }
        }

        void byBids(ArrayList<Paper> papers, int pool) {
            Arrays.fill(share, 0);
            int left = pool;
            int bidder = NONE;
            for (int i = 0; i < MAX_PAPERS; i++) {
                bidder = nextBidder(papers, bidder);
                if (bidder < 0 || bidder >= papers.size() || bidder >= MAX_PAPERS) {
                    return;
                }
                share[bidder] = Math.min(papers.get(bidder).asks, left);
                left -= share[bidder];
            }
        }

        /** Whose turn it is behind another one's (NONE: at first); NONE if nobody is left. */
        private static int nextBidder(ArrayList<Paper> papers, int last) {
            int found = NONE;
            int greatest = NONE;
            for (int i = 0; i < papers.size(); i++) {
                Paper paper = papers.get(i);
                boolean bids = paper.isAdmitted() && paper.asks > 0;
                if (bids && paper.offers > greatest && isBehind(papers, i, last)) {
                    found = i;
                    greatest = paper.offers;
                }
            }
            return found;
        }

        private static boolean isBehind(ArrayList<Paper> papers, int paper, int last) {
            if (last < 0 || last >= papers.size() || paper < 0 || paper >= papers.size()) {
                return true;
            }
            int offers = papers.get(paper).offers;
            int ahead = papers.get(last).offers;
            return offers < ahead || offers == ahead && paper > last;
        }

        /** Parts by the weights that were told by weigh(), behind what each has at least. */
        void byWeights(ArrayList<Paper> papers, int pool, int least, boolean keep) {
            int left = giveLeast(papers, pool, least);
            long all = 0;
            for (int i = 0; i < papers.size() && i < MAX_PAPERS; i++) {
                all += weight[i];
            }
            if (all <= 0) {
                return;
            }
            int over = left;
            for (int i = 0; i < papers.size() && i < MAX_PAPERS; i++) {
                long product = (long) left * weight[i];
                int part = (int) (product / all);
                share[i] += part;
                over -= part;
                rest[i] = weight[i] > 0 ? product % all : -1;
            }
            if (!keep) {
                giveOver(papers, over);
            }
        }

        /** Gives the least to each, as far as the pool goes: what is left of it. */
        private int giveLeast(ArrayList<Paper> papers, int pool, int least) {
            Arrays.fill(share, 0);
            int left = pool;
            for (int i = 0; i < papers.size() && i < MAX_PAPERS; i++) {
                if (papers.get(i).isAdmitted()) {
                    share[i] = Math.min(least, left);
                    left -= share[i];
                }
            }
            return left;
        }

        private void giveOver(ArrayList<Paper> papers, int over) {
            for (int given = 0; given < over && given < MAX_PAPERS; given++) {
                int next = NONE;
                long greatest = -1;
                for (int i = 0; i < papers.size() && i < MAX_PAPERS; i++) {
                    if (rest[i] > greatest) {
                        next = i;
                        greatest = rest[i];
                    }
                }
                if (next < 0 || next >= MAX_PAPERS) {
                    return;
                }
                share[next]++;
                rest[next] = -1;
            }
        }
    }

    /** The rows of the months that went by, and what was told of them anew. */
    private static final class Ledger {
        static final int WIDTH = 4;
        static final int PARTED = 0;
        static final int USED = 1;
        static final int STOCK = 2;
        static final int COINS = 3;
        static final int MOST_ANEW = 60;

        final int[][] rows = new int[MAX_MONTH][];
        final int[] anewPaper = new int[MOST_ANEW];
        final int[] anewMonth = new int[MOST_ANEW];
        final int[] anewUsed = new int[MOST_ANEW];
        final int[] anewWhen = new int[MOST_ANEW];
        int toldAnew = 0;

        void open(int month) {
            if (month >= 0 && month < rows.length) {
                int[] fresh = new int[MAX_PAPERS * WIDTH];
                Arrays.fill(fresh, NOTHING);
                rows[month] = fresh;
            }
        }

        void write(int month, int paper, int parted, Paper now) {
            put(month, paper, PARTED, parted);
            put(month, paper, USED, now.used);
            put(month, paper, STOCK, now.stock);
            put(month, paper, COINS, now.coins);
        }

        private void put(int month, int paper, int what, int v) {
            int[] row = rowsOf(month);
            int i = paper * WIDTH + what;
            if (row != null && i >= 0 && i < row.length) {
                row[i] = v;
            }
        }

        private int[] rowsOf(int month) {
            return month >= 0 && month < rows.length ? rows[month] : null;
        }

        int cell(int paper, int month, int what) {
            int[] row = rowsOf(month);
            int i = paper * WIDTH + what;
            return row != null && i >= 0 && i < row.length ? row[i] : NOTHING;
        }

        boolean has(int paper, int month) {
            return cell(paper, month, PARTED) != NOTHING;
        }

        int tellAnew(int paper, int month, int used, int when) {
            if (!has(paper, month)) {
                return -1;
            }
            if (toldAnew < 0 || toldAnew >= MOST_ANEW) {
                return -2;
            }
            anewPaper[toldAnew] = paper;
            anewMonth[toldAnew] = month;
            anewUsed[toldAnew] = used;
            anewWhen[toldAnew] = when;
            toldAnew++;
            return 1;
        }

        int usedAsKnown(int paper, int month, int known) {
            int used = cell(paper, month, USED);
            for (int i = 0; i < toldAnew && i < MOST_ANEW; i++) {
                if (anewPaper[i] == paper && anewMonth[i] == month && anewWhen[i] <= known) {
                    used = anewUsed[i];
                }
            }
            return used;
        }
    }

    /** The best of what was considered. */
    private static final class Offer {
        int pages = 0; // 0: nothing yet
        int price = 0;
        int copies = 0;
        int worth = 0;

        void clear() {
            pages = 0;
        }

        void consider(int pages, int price, int copies) {
            int worth = copies * price + copies * pages / 4 - 2 * kilogramsFor(copies, pages);
            if (this.pages == 0 || isBetter(pages, price, worth)) {
                this.pages = pages;
                this.price = price;
                this.copies = copies;
                this.worth = worth;
            }
        }

        private boolean isBetter(int pages, int price, int worth) {
            if (worth != this.worth) {
                return worth > this.worth;
            }
            return pages < this.pages || pages == this.pages && price < this.price;
        }

        int field(int what) {
            switch (what) {
                case 0: return pages;
                case 1: return price;
                case 2: return copies;
                default: return worth;
            }
        }
    }
}
