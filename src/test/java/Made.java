/** Grinders from which tests begin. */
final class Made {
    private Made() {
    }

    static DriftGrinders filled(int kind, int amount) {
        DriftGrinders x = new DriftGrinders();
        x.fill(kind, amount);
        return x;
    }

    /** With a chute that holds nothing, what is ground is in the basket at once. */
    static DriftGrinders withoutChute() {
        DriftGrinders x = new DriftGrinders();
        x.set(2, 0);
        return x;
    }

    /** Each lot of 1, of the kinds 0, 1, 0, and so on. */
    static DriftGrinders ofLots(int lots) {
        DriftGrinders x = new DriftGrinders();
        for (int lot = 0; lot < lots; lot++) {
            x.fill(lot % 2, 1);
        }
        return x;
    }

    /** Burr 0 is as warm as can be, at second 389; chute and basket are empty. */
    static DriftGrinders asWarmAsCanBe() {
        DriftGrinders x = new DriftGrinders();
        x.set(2, 100);
        for (int i = 0; i < 38; i++) {
            x.fill(0, 100);
            x.grind(0, 100);
            x.purge();
        }
        x.fill(0, 500);
        // 282 and 22 are more than 300; 9 seconds behind second 380 have no cooling
        x.grind(0, 90);
        x.purge();
        return x;
    }

    /** Each shot of 1, by burr 0, of kind 0; the chute holds nothing. */
    static DriftGrinders ofShots(int shots) {
        DriftGrinders x = withoutChute();
        x.fill(0, 100);
        for (int i = 0; i < shots; i++) {
            x.grind(0, 1);
            x.shot();
        }
        return x;
    }
}
