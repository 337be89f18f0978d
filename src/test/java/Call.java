import java.util.Arrays;

/** A call of the face by its name, so that tests can hold calls as rows. */
record Call(String name, long[] args) {
    int on(KnotRing x) {
        long[] w = args;
        int[] a = new int[w.length];
        for (int k = 0; k < a.length; k++) {
            a[k] = (int) w[k];
        }
        switch (name) {
            case "ring": return x.ring(a[0], a[1]);
            case "car": return x.car(a[0], a[1], a[2]);
            case "evenly": return x.evenly(a[0], a[1]);
            case "set": return x.set(a[0], a[1], a[2]);
            case "told": return x.told(a[0], a[1]);
            case "type": return x.type(w[0], a[1]);
            case "habit": return x.habit(a[0]);
            case "holds": return x.holds(a[0]);
            case "board": return x.board(a[0], a[1], a[2]);
            case "loop": return x.loop(a[0]);
            case "looped": return x.looped(a[0], a[1]);
            case "tap": return x.tap(a[0]);
            case "ticks": return x.ticks(a[0]);
            case "count": return x.count(a[0]);
            case "knot": return x.knot(a[0], a[1]);
            case "first": return x.first();
            case "cost": return x.cost(a[0], a[1], a[2]);
            case "after": return x.after(a[0], a[1]);
            case "calmed": return x.calmed(a[0], a[1]);
            case "round": return x.round(a[0]);
            case "evens": return x.evens(a[0]);
            case "image": return x.image(a[0]);
            case "restore": return x.restore(a[0]);
            case "paces": return x.paces(a[0], a[1], a[2]);
            case "taps": return x.taps(a[0], a[1]);
            case "sheet": return x.sheet(a[0], a[1], a[2]);
            case "drop": return x.drop(a[0]);
            case "item": return x.item(a[0], a[1], a[2], a[3]);
            case "copy": return x.copy(a[0], a[1], a[2], a[3], a[4]);
            default: throw new IllegalArgumentException(name);
        }
    }

    @Override
    public String toString() {
        return name + Arrays.toString(args);
    }
}
