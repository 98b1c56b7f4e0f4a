/** All that can be asked of a grinder but its history and its text, as one line. */
final class Facts {
    private Facts() {
    }

    static String of(DriftGrinders x) {
        StringBuilder facts = new StringBuilder();
        for (int what = 0; what <= 25; what++) {
            if (what != 10 && what != 11) {
                facts.append(x.count(what)).append(' ');
            }
        }
        for (int burr = 0; burr < 2; burr++) {
            for (int what = 0; what < 5; what++) {
                facts.append(x.burrOf(burr, what)).append(' ');
            }
        }
        for (int lot = 0; x.lotOf(lot, 0) >= 0; lot++) {
            facts.append("lot ").append(x.lotOf(lot, 0)).append(' ').append(x.lotOf(lot, 1)).append(' ');
        }
        for (int where = 0; where < 2; where++) {
            for (int portion = 0; x.portionOf(where, portion, 0) >= 0; portion++) {
                facts.append(where == 0 ? "chute " : "basket ");
                for (int what = 0; what < 5; what++) {
                    facts.append(x.portionOf(where, portion, what)).append(' ');
                }
            }
        }
        for (int shot = 0; x.shotOf(shot, 0) >= 0; shot++) {
            facts.append("shot ");
            for (int what = 0; what < 8; what++) {
                facts.append(x.shotOf(shot, what)).append(' ');
            }
        }
        return facts.toString();
    }
}
