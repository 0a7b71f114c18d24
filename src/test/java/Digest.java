/** The digest by its parts, each asked for by a call of its own. */
final class Digest {
    private Digest() {
    }

    static long parts(HedgehogBorder x) {
        long h = 17;
        for (int what = 0; what < 8; what++) {
            h = 31 * h + x.count(what);
        }
        h = 31 * h + x.fault(0);
        h = 31 * h + x.fault(1);
        for (int c = 0; c < x.count(0); c++) {
            h = 31 * h + x.cell(c);
            h = 31 * h + x.realm(0, c);
            h = 31 * h + x.realm(9, c);
        }
        for (int it = 0; it < x.count(1); it++) {
            h = 31 * h + x.house(it, 0);
            h = 31 * h + x.house(it, 1);
            h = 31 * h + x.lies(0, it);
            h = 31 * h + x.lies(9, it);
            h = 31 * h + x.changes(it);
            h = 31 * h + x.layOut(3, it, 0, -1);
            h = 31 * h + x.layOut(3, it, 0, 0);
            h = 31 * h + x.rake(3, it, 1);
            h = 31 * h + x.cat(5, 4, it, 0, 0);
            h = 31 * h + x.cat(5, 4, it, 0, 1);
        }
        for (int night : new int[] {0, 3, 9}) {
            h = 31 * h + x.at(night, 3);
            h = 31 * h + x.at(night, 24);
            h = 31 * h + x.goes(night);
            h = 31 * h + x.ask(night);
            h = 31 * h + x.taxes(night, 0);
            h = 31 * h + x.taxes(night, 1);
            for (int column = 0; column < x.count(6); column++) {
                h = 31 * h + x.line(night, column);
            }
        }
        long[] rest = {x.first(0), x.first(1), x.live(0, 0), x.live(0, 1), x.live(1, 0), x.live(1, 1),
            x.never(), x.began(), x.roam(7, 20, 0), x.roam(7, 20, 1)};
        for (long part : rest) {
            h = 31 * h + part;
        }
        return h;
    }
}
