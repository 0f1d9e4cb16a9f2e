/** The public face over the model: what each call is due to answer. */
final class Twin {
    final Model m = new Model();

    int order(int width, int due) {
        if (width < 5 || width > m.s.size || due < 0 || due > 40) {
            return -2;
        }
        for (int[] o : m.s.orders) {
            if (o[0] == width) {
                return -2;
            }
        }
        if (m.n() == 6) {
            return -4;
        }
        m.s.orders.add(new int[] {width, due});
        m.changed();
        return m.n() - 1;
    }

    int due(int order, int pieces) {
        if (order < 0 || order >= m.n()) {
            return -1;
        }
        if (pieces < 0 || pieces > 40) {
            return -2;
        }
        int was = m.d(order);
        m.s.orders.get(order)[1] = pieces;
        m.changed();
        return was;
    }

    int of(int order, int what) {
        return order < 0 || order >= m.n() || what < 0 || what > 1 ? -1 : m.s.orders.get(order)[what];
    }

    int drop() {
        if (m.n() == 0) {
            return -3;
        }
        m.s.orders.remove(m.n() - 1);
        m.changed();
        return m.n();
    }

    int machine(int what, int v) {
        int[] least = {20, 0, 1, 1};
        int[] most = {60, 2, 12, 60};
        if (what < 0 || what > 3) {
            return -1;
        }
        if (v < least[what] || v > most[what]) {
            return -2;
        }
        int was = told(3 + what);
        if (what == 0) {
            for (int[] o : m.s.orders) {
                if (o[0] > v) {
                    return -2;
                }
            }
            m.s.size = v;
        } else if (what == 1) {
            m.s.kerf = v;
        } else if (what == 2) {
            m.s.knives = v;
        } else {
            m.s.keep = v;
        }
        m.changed();
        return was;
    }

    int patterns(int kind) {
        if (kind != 0 && kind != 1) {
            return -1;
        }
        int many = 0;
        for (int[] p : m.all()) {
            many += kind == 0 || m.fullUp(p) ? 1 : 0;
        }
        return many;
    }

    int rows() {
        m.master();
        return m.rows.size();
    }

    int row(int i, int what) {
        if (i < 0 || i >= rows()) {
            return -1;
        }
        return what == 1 ? m.used(m.rows.get(i)) : pieces(m.rows.get(i), what);
    }

    private int pieces(int[] p, int what) {
        if (what == 0) {
            return Model.sum(p);
        }
        return what >= 10 && what - 10 < m.n() ? p[what - 10] : -1;
    }

    private static boolean part(int part) {
        return part == 0 || part == 1;
    }

    long amount(int i, int part) {
        return i < 0 || i >= rows() || !part(part) ? -1 : m.amount[i].part(part);
    }

    long share(int i, int order, int part) {
        if (i < 0 || i >= rows() || !m.wanted.contains(order) || !part(part)) {
            return -1000000000;
        }
        return m.share[i][m.wanted.indexOf(order)].part(part);
    }

    long price(int order, int part) {
        if (order < 0 || order >= m.n() || !part(part)) {
            return -1;
        }
        m.master();
        return m.price(order).part(part);
    }

    long bound(int part) {
        m.master();
        return part(part) ? m.bound().part(part) : -1;
    }

    int least() {
        m.master();
        return (int) m.bound().up();
    }

    int rounds() {
        m.master();
        return m.cameIn.size();
    }

    int came(int k, int what) {
        if (k < 0 || k >= rounds()) {
            return -1;
        }
        if (what == 0) {
            return m.cameRow.get(k);
        }
        return what == 1 ? Model.sum(m.cameIn.get(k)) : pieces(m.cameIn.get(k), what);
    }

    int leeway(int order) {
        return m.leeway(order);
    }

    int rolls(int way) {
        if (way < 0 || way > 2) {
            return -1;
        }
        m.plans();
        return Model.rollsOf(way == 0 ? m.down : way == 1 ? m.up : m.plan());
    }

    int cut(int i, int what) {
        if (i == -1) {
            return m.plan().size();
        }
        if (i < 0 || i >= m.plan().size()) {
            return -1;
        }
        Model.Cut c = m.plan().get(i);
        switch (what) {
            case 0: return c.times;
            case 1: return Model.sum(c.pieces);
            case 2: return m.used(c.pieces);
            case 3: return m.fullUp(c.pieces) ? 1 : 0;
            default: return pieces(c.pieces, what);
        }
    }

    int waste(int roll) {
        if (roll < -1 || roll >= m.planRolls().size()) {
            return -1;
        }
        int all = 0;
        for (int[] p : m.planRolls()) {
            all += m.waste(p);
        }
        return roll == -1 ? all : m.waste(m.planRolls().get(roll));
    }

    int wasting(int n) {
        int many = 0;
        for (int[] p : m.planRolls()) {
            many += m.waste(p) >= n ? 1 : 0;
        }
        return many;
    }

    int peak() {
        return m.peak(m.sequence());
    }

    int sequence(int i) {
        return i < 0 || i >= m.sequence().size() ? -1 : m.sequence().get(i);
    }

    int open(int i) {
        return i < 0 || i >= m.sequence().size() ? -1 : m.open(m.sequence(), i);
    }

    int carry() {
        return m.carry();
    }

    int serve() {
        return m.serve();
    }

    int store(int size) {
        if (size == -1) {
            int all = 0;
            for (int x : m.s.offcuts.values()) {
                all += x;
            }
            return all;
        }
        return size < 1 || size > 60 ? -1 : m.s.offcuts.getOrDefault(size, 0);
    }

    int put(int size) {
        if (size < 1 || size > 60) {
            return -2;
        }
        return store(size) >= 999 ? -4 : m.s.offcuts.merge(size, 1, Integer::sum);
    }

    int feed(int letter) {
        if (letter < 1 || letter > 127) {
            return -2;
        }
        if (m.tape.length() == 90) {
            return -4;
        }
        return m.tape.append((char) letter).length();
    }

    int clear() {
        int had = m.tape.length();
        m.tape.setLength(0);
        return had;
    }

    int book() {
        return m.book();
    }

    int pick() {
        return m.pick();
    }

    int first() {
        return m.first();
    }

    int judge() {
        return m.judge();
    }

    int spell() {
        m.paper = m.spelled();
        return m.paper.length();
    }

    int paper(int i) {
        return i < 0 || i >= m.paper.length() ? -1 : m.paper.charAt(i);
    }

    int told(int what) {
        switch (what) {
            case 0: return m.n();
            case 1: return rows();
            case 2:
                int due = 0;
                for (int[] o : m.s.orders) {
                    due += o[1];
                }
                return due;
            case 3: return m.s.size;
            case 4: return m.s.kerf;
            case 5: return m.s.knives;
            case 6: return m.s.keep;
            case 7: return m.tape.length();
            case 8: return m.paper.length();
            case 9: return rows() < 0 ? 0 : m.unlike();
            default: return -1;
        }
    }

    int image() {
        m.image = m.s.copy();
        return m.n();
    }

    int undo() {
        if (m.image == null) {
            return -3;
        }
        m.s = m.image.copy();
        m.changed();
        return m.n();
    }
}
