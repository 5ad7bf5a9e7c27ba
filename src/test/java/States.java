/** States of an array that the tests start from; none takes more than 300 calls to make. */
final class States {
    private States() {
    }

    static WideningArray made(int n) {
        WideningArray x = new WideningArray();
        x.format(n);
        return x;
    }

    /** Block b has b + 1 as its word 0. */
    static WideningArray filled(int n) {
        WideningArray x = made(n);
        for (int b = 0; b < 32 * (n - 1); b++) {
            x.write(b, 0, b + 1);
        }
        return x;
    }

    static WideningArray widened(int n, int steps) {
        WideningArray x = filled(n);
        x.widen();
        for (int s = 0; s < steps; s++) {
            x.step();
        }
        return x;
    }

    /** Only disk 0 has the marks with stashed; row done is as it was. */
    static WideningArray stashed(int n, int steps) {
        WideningArray x = widened(n, steps);
        cutOffStep(x, 2, 1);
        x.start();
        return x;
    }

    static WideningArray toFail(WideningArray x, int w, int c) {
        x.crash(w, c);
        return x;
    }

    static WideningArray lost(WideningArray x, int d) {
        x.lose(d);
        return x;
    }

    static WideningArray replaced(WideningArray x, int d) {
        x.lose(d);
        x.replace();
        return x;
    }

    static WideningArray rebuilt(WideningArray x, int d) {
        x.lose(d);
        x.replace();
        x.rebuild();
        return x;
    }

    static WideningArray withoutPower() {
        return withoutPower(made(3));
    }

    /** Power fails in a write of which nothing is done; the last block must not be in the window. */
    static WideningArray withoutPower(WideningArray x) {
        return cutOffWrite(x, x.count(1) - 1, 1, 0);
    }

    static WideningArray cutOffWrite(WideningArray x, int b, int v, int c) {
        x.crash(1, c);
        try {
            x.write(b, 0, v);
        } catch (UnsupportedOperationException due) {
            return x;
        }
        throw new IllegalStateException("power should have failed");
    }

    static WideningArray cutOffWiden(WideningArray x, int w, int c) {
        x.crash(w, c);
        try {
            x.widen();
        } catch (UnsupportedOperationException due) {
            return x;
        }
        throw new IllegalStateException("power should have failed");
    }

    static WideningArray cutOffStep(WideningArray x, int w, int c) {
        x.crash(w, c);
        try {
            x.step();
        } catch (UnsupportedOperationException due) {
            return x;
        }
        throw new IllegalStateException("power should have failed");
    }
}
