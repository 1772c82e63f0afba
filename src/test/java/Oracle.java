import java.math.BigInteger;
import java.util.ArrayList;
import java.util.HashMap;
import java.util.List;
import java.util.Map;

/** The document once more, in another way: by trying out and copying, whatever that costs. */
final class Oracle {
    static final int NOTHING = -2000000000;

    static final class P {
        int kind, base, copies, pages, price, points, coins, stock, right, state, used;
        int[] bid;
        int[] loyal = new int[5];
        int breaches, breachMonth = -1, breachWhich, breachOrder = -1, breachClause = -1;
        List<int[]> sources = new ArrayList<>();
        int printed, usedNow, share;

        P copy() {
            P p = new P();
            p.kind = kind; p.base = base; p.copies = copies; p.pages = pages; p.price = price;
            p.points = points; p.coins = coins; p.stock = stock; p.right = right; p.state = state; p.used = used;
            p.bid = bid;
            p.loyal = loyal.clone();
            return p;
        }
    }

    interface E {
        int eval(P p, int pages, int month);
    }

    static final class O {
        int month;
        E part = (p, pages, m) -> p.base;
        E price;
        int priceClause = -1;
        int[] pages = {64, 64, 64};
        int[] pagesClause = {-1, -1, -1};
        int fine = 10, fresh = 12, swap = 100, waste, least, way;
        boolean keep;
    }

    static final class Fault extends Exception {
        private static final long serialVersionUID = 1;
        final int kind, place;

        Fault(int kind, int place) {
            this.kind = kind;
            this.place = place;
        }
    }

    int month;
    List<P> papers = new ArrayList<>();
    List<int[]> reels = new ArrayList<>(); // dry, place
    List<Integer> wards = new ArrayList<>();
    List<Integer> tape = new ArrayList<>();
    List<O> orders = new ArrayList<>();
    List<int[]> appeals = new ArrayList<>(); // paper, asked, base, copies, kind, from or -1
    List<int[]> swaps = new ArrayList<>(); // from, to, came
    Map<String, int[]> rows = new HashMap<>();
    List<int[]> anew = new ArrayList<>(); // paper, month, used, when
    int faultAt = -1;

    // ---- helpers

    static void arg(boolean holds) {
        if (!holds) throw new IllegalArgumentException();
    }

    static boolean in(int v, int a, int b) {
        return a <= v && v <= b;
    }

    P p(int i) {
        if (i < 0 || i >= papers.size()) throw new IndexOutOfBoundsException();
        return papers.get(i);
    }

    static int kg(int copies, int pages) {
        return copies * pages * 3 / 10;
    }

    int pool() {
        int sum = 0;
        for (int[] r : reels) if (r[1] == -1) sum += r[0];
        return sum;
    }

    int dem(P p, int price) {
        int sum = 0;
        for (int w = 0; w < wards.size(); w++) sum += wards.get(w) * p.loyal[w] * (100 - price) / 10000;
        return sum;
    }

    int forceOf(int m) {
        for (int at = m; at >= 0; at--) {
            for (int i = orders.size() - 1; i >= 0; i--) if (orders.get(i).month == at) return i;
        }
        return -1;
    }

    O now() {
        int f = forceOf(month);
        return f < 0 ? new O() : orders.get(f);
    }

    int partOf(O o, P p) {
        return Math.max(0, Math.min(1000000, o.part.eval(p, p.pages, month)));
    }

    int priceOf(O o, P p, int pages) {
        return Math.max(1, Math.min(100, o.price.eval(p, pages, month)));
    }

    Oracle copy() {
        Oracle c = new Oracle();
        c.month = month;
        for (P p : papers) c.papers.add(p.copy());
        for (int[] r : reels) c.reels.add(r.clone());
        c.wards.addAll(wards);
        c.orders.addAll(orders);
        return c;
    }

    void divide(int way) {
        O o = now();
        int left = pool();
        List<P> in = new ArrayList<>();
        for (P p : papers) {
            p.share = 0;
            if (p.state == 1) in.add(p);
        }
        if (way == 3) {
            List<P> bidders = new ArrayList<>();
            for (P p : in) if (p.bid != null) bidders.add(p);
            bidders.sort((a, b) -> b.bid[1] - a.bid[1]); // stable: then by number
            for (P p : bidders) {
                p.share = Math.min(left, p.bid[0]);
                left -= p.share;
            }
            return;
        }
        for (P p : in) {
            p.share = Math.min(o.least, left);
            left -= p.share;
        }
        BigInteger all = BigInteger.ZERO;
        Map<P, BigInteger> weights = new HashMap<>();
        for (P p : in) {
            int w = way == 0 ? partOf(o, p) : way == 1 ? p.points : 1;
            weights.put(p, BigInteger.valueOf(w));
            all = all.add(weights.get(p));
        }
        if (all.signum() == 0) return;
        int rest = left;
        Map<P, BigInteger> rests = new HashMap<>();
        List<P> heavy = new ArrayList<>();
        for (P p : in) {
            BigInteger[] qr = BigInteger.valueOf(left).multiply(weights.get(p)).divideAndRemainder(all);
            p.share += qr[0].intValue();
            rest -= qr[0].intValue();
            rests.put(p, qr[1]);
            if (weights.get(p).signum() != 0) heavy.add(p);
        }
        if (o.keep) return;
        heavy.sort((a, b) -> rests.get(b).compareTo(rests.get(a)));
        for (int i = 0; i < rest; i++) heavy.get(i).share++;
    }

    // ---- the face

    int paper(int kind, int base, int copies, int pages, int price) {
        arg(in(kind, 0, 2) && in(base, 0, 100000) && in(copies, 0, 1000) && in(pages, 2, 64) && in(price, 1, 100));
        if (papers.size() == 12) throw new IllegalStateException();
        P p = new P();
        p.kind = kind; p.base = base; p.copies = copies; p.pages = pages; p.price = price;
        papers.add(p);
        return papers.size() - 1;
    }

    int set(int paper, int what, int v) {
        P p = p(paper);
        arg(in(what, 0, 3));
        int[][] bounds = {{0, 1000}, {2, 64}, {1, 100}, {0, 1000}};
        arg(in(v, bounds[what][0], bounds[what][1]));
        if (p.state == 2) return -1;
        int was = new int[] {p.copies, p.pages, p.price, p.points}[what];
        if (what == 0) p.copies = v;
        if (what == 1) p.pages = v;
        if (what == 2) p.price = v;
        if (what == 3) p.points = v;
        return was;
    }

    int told(int paper, int what) {
        P p = p(paper);
        arg(in(what, 0, 10));
        return new int[] {p.kind, p.base, p.copies, p.pages, p.price, p.points, p.coins, p.stock, p.right, p.state,
            p.used}[what];
    }

    int reel(int weight, int wet) {
        arg(in(weight, 1, 2000) && in(wet, 0, 500));
        if (reels.size() == 80) return -1;
        reels.add(new int[] {weight * (1000 - wet) / 1000, -1});
        return reels.size() - 1;
    }

    int[] r(int reel) {
        if (reel < 0 || reel >= reels.size()) throw new IndexOutOfBoundsException();
        return reels.get(reel);
    }

    int where(int reel) {
        return r(reel)[1];
    }

    int steal(int reel) {
        int[] r = r(reel);
        if (r[1] == -2) return -3;
        int was = r[1];
        if (was >= 0) papers.get(was).stock = Math.max(0, papers.get(was).stock - r[0]);
        r[1] = -2;
        return was;
    }

    int find(int reel) {
        int[] r = r(reel);
        if (r[1] != -2) return -1;
        r[1] = -1;
        return r[0];
    }

    int ward(int readers) {
        arg(in(readers, 0, 1000));
        if (wards.size() == 5) return -1;
        wards.add(readers);
        return wards.size() - 1;
    }

    int loyal(int ward, int paper, int part) {
        P p = p(paper);
        if (ward < 0 || ward >= wards.size()) throw new IndexOutOfBoundsException();
        arg(in(part, 0, 100));
        int was = p.loyal[ward];
        p.loyal[ward] = part;
        return was;
    }

    int demand(int paper, int price) {
        P p = p(paper);
        arg(in(price, 1, 100));
        return dem(p, price);
    }

    int feed(int a, int b, int c, int d, int e) {
        if (tape.size() > 280) return -1;
        for (int n : new int[] {a, b, c, d, e}) for (int k = 3; k >= 0; k--) tape.add(n >> 8 * k & 255);
        return tape.size();
    }

    int order(int m, int n) {
        arg(in(m, 0, 600) && in(n, 0, tape.size()));
        StringBuilder text = new StringBuilder();
        for (int i = 0; i < n; i++) text.append((char) (int) tape.get(i));
        tape.clear();
        faultAt = -1;
        if (orders.size() == 10) return -1;
        O o;
        try {
            o = new Parse(text.toString()).order();
        } catch (Fault f) {
            faultAt = f.place;
            return f.kind - 10;
        }
        o.month = m;
        orders.add(o);
        return orders.size() - 1;
    }

    int fault() {
        return faultAt;
    }

    int force(int m) {
        arg(in(m, 0, 600));
        return forceOf(m);
    }

    int tells(int paper, int what) {
        P p = p(paper);
        arg(in(what, 0, 8));
        O o = now();
        return new int[] {partOf(o, p), o.pages[p.kind], o.price == null ? -1 : priceOf(o, p, p.pages), o.fine, o.fresh,
            o.swap, o.waste, o.least, o.way}[what];
    }

    int bid(int paper, int kilograms, int coins) {
        P p = p(paper);
        arg(in(kilograms, 1, 100000) && in(coins, 0, 100));
        if (p.state != 1) return -1;
        p.bid = new int[] {kilograms, coins};
        return 1;
    }

    int parted(int paper, int way) {
        P p = p(paper);
        arg(in(way, -1, 3));
        if (p.state != 1) return 0;
        divide(way == -1 ? now().way : way);
        return p.share;
    }

    int months(int months) {
        arg(in(months, 0, 24));
        if (month + months > 600) throw new IllegalStateException();
        for (int i = 0; i < months; i++) one();
        return month;
    }

    private void one() {
        for (int[] a : appeals) {
            if (a[5] == month && papers.get(a[0]).state == 1) papers.get(a[0]).base = a[1];
        }
        O o = now();
        int fresh = o.fresh;
        for (P p : papers) if (p.state == 0 && fresh-- > 0) p.state = 1;
        divide(o.way);
        for (P p : papers) {
            if (p.state == 1) p.right += p.share;
            if (p.state == 1 && o.way == 3 && p.bid != null) p.coins -= p.share * p.bid[1];
            p.bid = null;
        }
        for (int[] r : reels) {
            if (r[1] != -1) continue;
            int to = -1;
            for (int i = papers.size() - 1; i >= 0; i--) {
                if (papers.get(i).state == 1 && (to < 0 || papers.get(i).right >= papers.get(to).right)) to = i;
            }
            if (to < 0 || papers.get(to).right <= 0) break;
            r[1] = to;
            papers.get(to).stock += r[0];
            papers.get(to).right -= r[0];
        }
        List<P> in = new ArrayList<>();
        for (P p : papers) if (p.state == 1) in.add(p);
        for (P p : in) {
            p.printed = p.copies;
            while (kg(p.printed, p.pages) > p.stock) p.printed--;
            p.usedNow = kg(p.printed, p.pages);
            p.stock -= p.usedNow;
            p.coins += Math.min(p.printed, dem(p, p.price)) * p.price;
        }
        for (P p : in) {
            if (p.printed == 0) continue;
            int which = 0;
            int above = p.pages - o.pages[p.kind];
            if (above > 0) {
                which += 1;
                p.coins -= above * o.fine;
            }
            if (o.price != null && priceOf(o, p, p.pages) != p.price) {
                which += 2;
                p.coins -= o.fine;
            }
            if (which == 0) continue;
            p.breaches += which == 3 ? 2 : 1;
            p.breachMonth = month;
            p.breachWhich = which;
            p.breachOrder = forceOf(month);
            p.breachClause = which == 2 ? o.priceClause : o.pagesClause[p.kind];
        }
        for (P p : in) p.stock += p.usedNow / 20 * o.waste / 100;
        for (P p : in) {
            p.used = p.usedNow;
            rows.put(papers.indexOf(p) + "," + month, new int[] {p.share, p.used, p.stock, p.coins});
        }
        swaps.clear();
        month++;
    }

    boolean two(int a, int b) {
        return a != b && papers.get(a).state == 1 && papers.get(b).state == 1;
    }

    int swap(int paper, int other, int kilograms) {
        P a = p(paper);
        P b = p(other);
        arg(in(kilograms, 1, 100000));
        if (!two(paper, other)) return -1;
        if (a.stock < kilograms) return -2;
        if (now().swap == 0) return -3;
        int comes = kilograms * now().swap / 100;
        a.stock -= kilograms;
        b.stock += comes;
        swaps.add(new int[] {paper, other, comes});
        return comes;
    }

    int netted(int paper, int other) {
        p(paper);
        p(other);
        int net = 0;
        for (int[] s : swaps) {
            if (s[1] == paper && s[0] == other) net += s[2];
            if (s[0] == paper && s[1] == other) net -= s[2];
        }
        return net;
    }

    int merge(int paper, int other) {
        P a = p(paper);
        P b = p(other);
        if (!two(paper, other)) return -1;
        a.base = Math.min(100000, a.base + b.base);
        a.copies = Math.min(1000, a.copies + b.copies);
        a.stock += b.stock;
        a.right += b.right;
        a.coins += b.coins;
        for (int w = 0; w < 5; w++) a.loyal[w] = Math.min(100, a.loyal[w] + b.loyal[w]);
        for (int[] r : reels) if (r[1] == other) r[1] = paper;
        b.base = b.copies = b.stock = b.right = b.coins = 0;
        b.loyal = new int[5];
        b.state = 2;
        return 1;
    }

    int gain(int paper, int other) {
        p(paper);
        p(other);
        if (!two(paper, other)) return NOTHING;
        Oracle after = copy();
        after.merge(paper, other);
        return after.parted(paper, -1) - parted(paper, -1) - parted(other, -1);
    }

    int breach(int paper, int what) {
        P p = p(paper);
        arg(in(what, 0, 4));
        return new int[] {p.breaches, p.breachMonth, p.breachWhich, p.breachOrder, p.breachClause}[what];
    }

    int source(int paper, int from, int to) {
        P p = p(paper);
        arg(in(from, 0, 100000) && in(to, 0, 100000) && from <= to);
        if (p.sources.size() == 8) return -1;
        p.sources.add(new int[] {from, to});
        return p.sources.size();
    }

    static int mask(P p, int x) {
        int mask = 0;
        for (int i = 0; i < p.sources.size(); i++) {
            if (in(x, p.sources.get(i)[0], p.sources.get(i)[1])) mask |= 1 << i;
        }
        return mask;
    }

    int borne(int paper, int what) {
        P p = p(paper);
        arg(in(what, 0, 3));
        if (p.sources.isEmpty()) return -1;
        int best = 0;
        int bits = 0;
        for (int x = 0; x <= 100000; x++) {
            int m = mask(p, x);
            if (Integer.bitCount(m) > Integer.bitCount(bits)) {
                best = x;
                bits = m;
            }
        }
        int last = best;
        for (int x = best; x <= 100000; x++) if (mask(p, x) == bits) last = x;
        return new int[] {best, last, Integer.bitCount(bits), (1 << p.sources.size()) - 1 & ~bits}[what];
    }

    int appeal(int paper, int base) {
        P p = p(paper);
        arg(in(base, 0, 100000));
        if (appeals.size() == 20) return -1;
        if (p.state != 1) return -2;
        appeals.add(new int[] {paper, base, p.base, p.copies, p.kind, -1});
        return appeals.size() - 1;
    }

    int[] a(int i) {
        if (i < 0 || i >= appeals.size()) throw new IndexOutOfBoundsException();
        return appeals.get(i);
    }

    int alike(int appeal) {
        a(appeal);
        int best = -1;
        for (int i = appeal - 1; i >= 0; i--) {
            if (a(i)[5] >= 0 && (best < 0 || apart(appeal, i) < apart(appeal, best))) best = i;
        }
        return best;
    }

    int apart(int appeal, int other) {
        int[] x = a(appeal);
        int[] y = a(other);
        return Math.abs(x[2] - y[2]) + 100 * Math.abs(x[3] - y[3]) + (x[4] != y[4] ? 10000 : 0);
    }

    int grant(int appeal, int m) {
        int[] x = a(appeal);
        arg(in(m, month, 600));
        if (x[5] >= 0) return -1;
        x[5] = m;
        return 1;
    }

    int best(int paper, int what) {
        P p = p(paper);
        arg(in(what, 0, 3));
        if (p.state != 1) return NOTHING;
        O o = now();
        int have = p.stock + Math.max(0, p.right);
        int[] best = null;
        for (int pages = 2; pages <= o.pages[p.kind]; pages += 2) {
            for (int price = 1; price <= 100; price++) {
                if (o.price == null ? price > 60 : price != priceOf(o, p, pages)) continue;
                int copies = dem(p, price);
                while (kg(copies, pages) > have) copies--;
                int worth = copies * price + copies * pages / 4 - 2 * kg(copies, pages);
                if (best == null || worth > best[3]) best = new int[] {pages, price, copies, worth};
            }
        }
        return best[what];
    }

    int correct(int paper, int m, int used) {
        p(paper);
        arg(in(used, 0, 1000000));
        if (!rows.containsKey(paper + "," + m)) return -1;
        if (anew.size() == 60) return -2;
        anew.add(new int[] {paper, m, used, month});
        return 1;
    }

    int row(int paper, int m, int what, int known) {
        p(paper);
        arg(in(what, 0, 3));
        int[] row = rows.get(paper + "," + m);
        if (row == null || known <= m) return NOTHING;
        if (what == 1) {
            for (int i = anew.size() - 1; i >= 0; i--) {
                int[] a = anew.get(i);
                if (a[0] == paper && a[1] == m && a[3] <= known) return a[2];
            }
        }
        return row[what];
    }

    int count(int what) {
        int admitted = 0;
        int queued = 0;
        int stolen = 0;
        for (P p : papers) {
            if (p.state == 1) admitted++;
            if (p.state == 0) queued++;
        }
        for (int[] r : reels) if (r[1] == -2) stolen++;
        int[] all = {month, papers.size(), admitted, queued, reels.size(), pool(), orders.size(), wards.size(),
            appeals.size(), anew.size(), tape.size(), stolen};
        return in(what, 0, 11) ? all[what] : -1;
    }

    // ---- the language of orders

    static final class Parse {
        final String text;
        final List<String> tokens = new ArrayList<>();
        final List<Integer> places = new ArrayList<>();
        int next = 0;
        int open = 0;

        Parse(String text) {
            this.text = text;
            int i = 0;
            while (i < text.length()) {
                char c = text.charAt(i);
                int from = i++;
                if (c == ' ') continue;
                if (c >= 'a' && c <= 'z') while (i < text.length() && text.charAt(i) >= 'a' && text.charAt(i) <= 'z') i++;
                if (c >= '0' && c <= '9') while (i < text.length() && text.charAt(i) >= '0' && text.charAt(i) <= '9') i++;
                tokens.add(text.substring(from, i));
                places.add(from);
            }
            tokens.add("");
            places.add(text.length());
        }

        Fault fault(int kind) {
            return new Fault(kind, places.get(next));
        }

        boolean at(String... any) {
            for (String s : any) if (tokens.get(next).equals(s)) return true;
            return false;
        }

        String one(String... any) throws Fault {
            if (!at(any)) throw fault(1);
            return tokens.get(next++);
        }

        int number(int a, int b) throws Fault {
            String s = tokens.get(next);
            if (s.isEmpty() || s.charAt(0) < '0' || s.charAt(0) > '9') throw fault(1);
            BigInteger n = new BigInteger(s);
            if (n.compareTo(BigInteger.valueOf(a)) < 0 || n.compareTo(BigInteger.valueOf(b)) > 0) throw fault(2);
            next++;
            return n.intValue();
        }

        O order() throws Fault {
            O o = new O();
            int clauses = 0;
            while (!at("")) {
                if (!at("part", "pages", "price", "fine", "new", "swap", "waste", "least", "rest", "way")) throw fault(1);
                if (clauses == 12) throw fault(3);
                String w = tokens.get(next++);
                if (w.equals("part")) o.part = sum();
                if (w.equals("price")) {
                    o.price = sum();
                    o.priceClause = clauses;
                }
                if (w.equals("pages")) {
                    int kind = List.of("daily", "weekly", "party").indexOf(one("daily", "weekly", "party"));
                    o.pages[kind] = number(2, 64);
                    o.pagesClause[kind] = clauses;
                }
                if (w.equals("fine")) o.fine = number(0, 9999);
                if (w.equals("new")) o.fresh = number(0, 9999);
                if (w.equals("swap")) o.swap = number(0, 100);
                if (w.equals("waste")) o.waste = number(0, 100);
                if (w.equals("least")) o.least = number(0, 9999);
                if (w.equals("rest")) o.keep = one("most", "keep").equals("keep");
                if (w.equals("way")) {
                    o.way = List.of("base", "points", "alike", "bids").indexOf(one("base", "points", "alike", "bids"));
                }
                one(";");
                clauses++;
            }
            return o;
        }

        E sum() throws Fault {
            E left = product();
            while (at("+", "-")) {
                boolean plus = one("+", "-").equals("+");
                E a = left;
                E b = product();
                left = (p, g, m) -> plus ? a.eval(p, g, m) + b.eval(p, g, m) : a.eval(p, g, m) - b.eval(p, g, m);
            }
            return left;
        }

        E product() throws Fault {
            E left = unit();
            while (at("*", "/")) {
                boolean times = one("*", "/").equals("*");
                E a = left;
                E b = unit();
                left = (p, g, m) -> {
                    int x = a.eval(p, g, m);
                    int y = b.eval(p, g, m);
                    return times ? (int) ((long) x * y) : y == 0 ? 0 : (int) ((long) x / y);
                };
            }
            return left;
        }

        void bracket() throws Fault {
            if (!at("(")) throw fault(1);
            if (open == 8) throw fault(3);
            next++;
            open++;
        }

        void close() throws Fault {
            one(")");
            open--;
        }

        E unit() throws Fault {
            String s = tokens.get(next);
            if (!s.isEmpty() && s.charAt(0) >= '0' && s.charAt(0) <= '9') {
                int n = number(0, 9999);
                return (p, g, m) -> n;
            }
            if (at("(")) {
                bracket();
                E e = sum();
                close();
                return e;
            }
            String w = one("base", "copies", "pages", "price", "kind", "month", "stock", "used", "min", "max", "if");
            if (w.equals("base")) return (p, g, m) -> p.base;
            if (w.equals("copies")) return (p, g, m) -> p.copies;
            if (w.equals("pages")) return (p, g, m) -> g;
            if (w.equals("price")) return (p, g, m) -> p.price;
            if (w.equals("kind")) return (p, g, m) -> p.kind;
            if (w.equals("month")) return (p, g, m) -> m;
            if (w.equals("stock")) return (p, g, m) -> p.stock;
            if (w.equals("used")) return (p, g, m) -> p.used;
            bracket();
            E a = sum();
            if (!w.equals("if")) {
                one(",");
                E b = sum();
                close();
                if (w.equals("min")) return (p, g, m) -> Math.min(a.eval(p, g, m), b.eval(p, g, m));
                return (p, g, m) -> Math.max(a.eval(p, g, m), b.eval(p, g, m));
            }
            String r = one("<", ">", "=");
            E b = sum();
            one(",");
            E c = sum();
            one(",");
            E d = sum();
            close();
            return (p, g, m) -> {
                int x = a.eval(p, g, m);
                int y = b.eval(p, g, m);
                boolean holds = r.equals("<") ? x < y : r.equals(">") ? x > y : x == y;
                return holds ? c.eval(p, g, m) : d.eval(p, g, m);
            };
        }
    }
}
