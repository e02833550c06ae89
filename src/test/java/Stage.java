/** Objects to ask on: new, with one heir, with some of all, and full of all that there can be. */
enum Stage {
    NEW(0, 0, 0), ONE(1, 8, 1), SOME(4, 13, 2), FULL(6, 160, 6);

    final int heirs;
    final int bytes;
    final int seen;

    Stage(int heirs, int bytes, int seen) {
        this.heirs = heirs;
        this.bytes = bytes;
        this.seen = seen;
    }

    LeapKings make() {
        switch (this) {
            case NEW: return new LeapKings();
            case ONE: return one();
            case SOME: return some();
            default: return full();
        }
    }

    private static LeapKings one() {
        LeapKings x = Checks.told("tall 7 5 9;lumbago 2;works 30;");
        x.see(3, 0);
        x.keep(1);
        x.works(31);
        x.sheet(0, 1, 3);
        Checks.layAll(x, 0, 0, 6, 0);
        Checks.feedAll(x, "works 5;");
        return x;
    }

    private static LeapKings some() {
        LeapKings x = Checks.told("plain 8 6 10;tall 7 5 9;stooped 5 8 8;stool 3 7 7;line 2 0;works 20;");
        x.reigns(3);
        x.keep(0);
        x.lumbago(1);
        x.alter(3, 1, 6);
        x.reigns(2);
        x.see(2, x.runs(2, 4));
        x.see(20, x.runs(20, 4));
        x.sheet(0, 0, 6);
        Checks.layAll(x, 0, 1, 12, 3, 20, 0, 2);
        x.sheet(2, 2, 3);
        Checks.layAll(x, 2, 2, 11, 3);
        // It finds the row at its end behind the first.
        x.read(2, 2, 0, 2);
        Checks.tell(x, "works 7; x");
        Checks.feedAll(x, "lumbago 4; wo");
        return x;
    }

    private static LeapKings full() {
        LeapKings x = Checks.told("plain 9 5 7;tall 9 5 7;plain 9 8 7;stool 9 5 7;plain 20 5 7;plain 9 5 7;");
        x.keep(1);
        Checks.reignAll(x, 999);
        for (int n = 1; n <= 6; n++) {
            x.see(n, x.runs(n, 4));
        }
        x.keep(0);
        x.works(500);
        for (int k = 0; k < 4; k++) {
            x.sheet(k, k % 3, 40);
        }
        Checks.layAll(x, 1, 4, 19);
        String text = "line 1 0;works 77;tall 1 2 3;stool 4 5 6;";
        Checks.feedAll(x, text + " ".repeat(160 - text.length()));
        return x;
    }
}
