/**
 * All that can be asked of a dyehouse, as texts. Each part is asked of a dyehouse of its own, so that none is used for
 * more than the document's 512 calls, and so that a part may also change it to see what lies behind the answers.
 */
final class Snapshot {
    static final int PARTS = 7;

    private final DyehouseLedger d;
    private final StringBuilder text = new StringBuilder();

    private Snapshot(DyehouseLedger d) {
        this.d = d;
    }

    static String part(DyehouseLedger d, int part) {
        Snapshot taken = new Snapshot(d);
        if (part == 0) {
            taken.noteTotals();
        } else if (part == 1) {
            taken.noteOrdersAndVats();
        } else if (part == 2) {
            taken.noteWhatFollows();
        } else {
            taken.noteLots(6 * (part - 3), 6 * (part - 3) + 6);
        }
        return taken.text.toString();
    }

    private void note(Check.Call call) {
        text.append(' ').append(Check.outcome(call));
    }

    private void noteTotals() {
        note(() -> d.recipes());
        note(() -> d.lots());
        note(() -> d.passedShare());
        note(() -> d.meanOff());
        for (int i = 0; i < 4; i++) {
            int n = i;
            note(() -> d.dues(n));
            note(() -> d.stock(n));
            note(() -> d.used(n));
        }
        for (int recipe = 0; recipe < 8; recipe++) {
            for (int dye = 0; dye < 3; dye++) {
                int r = recipe;
                int n = dye;
                note(() -> d.setDye(r, n, 0));
            }
        }
        note(() -> d.addRecipe(0, 0, 0));
    }

    private void noteOrdersAndVats() {
        for (int i = 0; i < 6; i++) {
            int order = i;
            note(() -> d.lotsOf(order));
            note(() -> d.passedOf(order));
            note(() -> d.spread(order));
            note(() -> d.lateBy(order));
            note(() -> d.due(order));
        }
        for (int i = 0; i < 4; i++) {
            noteVat(i);
        }
        note(() -> d.addOrder(0, 0, 0, 0, 0));
        note(() -> d.addVat(10));
    }

    private void noteVat(int vat) {
        note(() -> d.planned(vat));
        note(() -> d.leastHours(vat));
        note(() -> d.leastByAll(vat));
        note(() -> d.firstOf(vat));
        note(() -> d.clock(vat));
        note(() -> d.cleanings(vat));
        note(() -> d.lightIn(vat));
        note(() -> d.customerOf(vat));
        for (int i = 0; i < 6; i++) {
            int place = i;
            note(() -> d.plannedAt(vat, place));
        }
    }

    /** What was kept at a dyeing is seen only when the lot is judged, and a plan's lot only when it is taken out. */
    private void noteWhatFollows() {
        for (int i = 0; i < 24; i++) {
            int lot = i;
            note(() -> d.judge(lot));
            note(() -> d.unplan(lot));
            note(() -> d.again(lot));
        }
        for (int i = 0; i < 4; i++) {
            noteVat(i);
        }
    }

    private void noteLots(int from, int to) {
        for (int i = from; i < to; i++) {
            int lot = i;
            note(() -> d.stateOf(lot));
            note(() -> d.hoursFor(lot));
            note(() -> d.vatOf(lot));
            note(() -> d.offBy(lot));
            note(() -> d.verdict(lot));
            note(() -> d.nearest(lot));
            note(() -> d.byLight(lot));
            note(() -> d.distance(lot, 0));
            for (int j = 0; j < 4; j++) {
                int n = j;
                note(() -> d.needs(lot, n));
                note(() -> d.shadeOf(lot, n));
                note(() -> d.reason(lot, n));
            }
        }
        note(() -> d.addLot(0, 1));
    }
}
