/** Promises 20 to 25: what is best, worked out by hand. */
public final class BestTest {
    private static final Checks CHECKS = new Checks();
    private static final LeapKings ONE = Checks.told("plain 1 1 1;");

    private static void due(String call, long got, long want) {
        CHECKS.due(call, got, want);
    }

    private static void need() {
        // 1 leaps over 0 (HEIGHT 6); CLEAN or not, 2 comes next: over 0 if 1 FALLS, else 0 leaps over 2.
        LeapKings x = Checks.told("plain 9 6 5;plain 2 3 5;plain 4 20 5;lumbago 2;");
        due("need(1)", x.need(1), 8);
        due("need(2), over 0", x.need(2), 8);
        due("need(0), who always bends", x.need(0), LeapKings.NONE);
        x.alter(1, 1, 8);
        // Now 1 is CLEAN and 0 is to leap over 2, 20 and 2: by none.
        due("need(0), over 2", x.need(0), LeapKings.NONE);
        x.lumbago(0);
        due("need(0), just so", x.need(0), 20);
        x.alter(0, 0, 3);
        x.alter(0, 2, 1);
        due("need(1), over a HEIGHT of 0", x.need(1), 0);
        due("need(3)", x.need(3), LeapKings.BAD);
        due("need(-1)", x.need(-1), LeapKings.BAD);
        due("need of one", ONE.need(0), LeapKings.STATE);
        due("need bad of one", ONE.need(1), LeapKings.BAD);
    }

    private static void order() {
        // All FALL: 0 bends for good. Built by 1 (half of 4) as it is; by 2 (half of 9, up) if he is second.
        LeapKings x = Checks.told("plain 0 9 6;plain 0 9 4;plain 0 9 9;works 1;");
        due("runs(1, 0)", x.runs(1, 0), 3);
        due("order(1, 0)", x.order(1, 0), 12);
        due("order(1, 1)", x.order(1, 1), 6);
        x.alter(0, 3, 9);
        due("order(1, 0), of several the least", x.order(1, 0), 1);
        due("order(1, 1)", x.order(1, 1), 6);
        due("line(0) is as it was", x.line(0), 0);
        x.alter(1, 3, 10);
        due("order(1, 0), none is more", x.order(1, 0), LeapKings.NONE);
        due("order(1, 1), none is more", x.order(1, 1), LeapKings.NONE);
        due("order(0, 0)", x.order(0, 0), LeapKings.NONE);
        due("order(-1, 0)", x.order(-1, 0), LeapKings.BAD);
        due("order(61, 0)", x.order(61, 0), LeapKings.BAD);
        due("order(1, 2)", x.order(1, 2), LeapKings.BAD);
        due("order(1, -1)", x.order(1, -1), LeapKings.BAD);
        due("order of one", ONE.order(1, 0), LeapKings.STATE);
        due("order bad of one", ONE.order(61, 0), LeapKings.BAD);
    }

    private static void stool() {
        // As it is 1, then 2 FALL over 0 (HEIGHT 6). With 0 as a stool (HEIGHT 3) 1 is CLEAN, 0 over 2 (HEIGHT 6) too.
        LeapKings x = Checks.told("plain 9 6 5;plain 4 6 5;plain 4 6 5;");
        due("runs(2, 2)", x.runs(2, 2), 2);
        due("stool(2, 0)", x.stool(2, 0), 0);
        due("stool(2, 1)", x.stool(2, 1), 0);
        due("KIND is as it was", x.heir(0, 0), 0);
        // 0 over 2 FALLS now, whatever he is; 2 as a stool changes nothing while 1 FALLS over 0.
        x.alter(0, 1, 0);
        due("stool(2, 0)", x.stool(2, 0), 0);
        due("stool(2, 1)", x.stool(2, 1), 1);
        due("stool(0, 0)", x.stool(0, 0), LeapKings.NONE);
        x.alter(0, 0, 3);
        due("stool(1, 0), who is one already", x.stool(1, 0), LeapKings.NONE);
        due("stool(1, 1)", x.stool(1, 1), LeapKings.NONE);
        due("stool(61, 0)", x.stool(61, 0), LeapKings.BAD);
        due("stool(-1, 0)", x.stool(-1, 0), LeapKings.BAD);
        due("stool(1, 2)", x.stool(1, 2), LeapKings.BAD);
        due("stool(1, -1)", x.stool(1, -1), LeapKings.BAD);
        due("stool of one", ONE.stool(1, 0), LeapKings.STATE);
        // FALLS that were do not count.
        LeapKings fallen = Checks.told("plain 9 6 5;plain 4 6 5;plain 4 6 5;");
        fallen.reigns(1);
        due("stool(1, 0)", fallen.stool(1, 0), 0);
        due("stool(1, 1)", fallen.stool(1, 1), 0);
        // 1 is CLEAN over 0, then 3 and 0 FALL over 2 (HEIGHT 9), but not if he is a stool (HEIGHT 6).
        LeapKings four = Checks.told("plain 6 1 5;plain 6 1 5;plain 6 9 5;plain 6 1 5;");
        due("stool(3, 0)", four.stool(3, 0), 2);
        due("stool(3, 1)", four.stool(3, 1), 0);
    }

    private static void term() {
        // 1 over 0, CLEAN for good: odd ones build what even ones pull down.
        LeapKings two = Checks.told("plain 9 1 3;plain 9 1 3;works 50;");
        due("term(1, 1, 0)", two.term(1, 1, 0), 30);
        due("term(1, 1, 1)", two.term(1, 1, 1), 80);
        due("term(1, 2, 0)", two.term(1, 2, 0), 1);
        due("term(1, 2, 1)", two.term(1, 2, 1), 50);
        due("term(0, 1, 0), who never REIGNS", two.term(0, 1, 0), 1);
        due("term(0, 1, 1)", two.term(0, 1, 1), 53);
        due("term(0, 0, 0)", two.term(0, 0, 0), 1);
        due("term(0, 0, 1)", two.term(0, 0, 1), 50);
        two.alter(1, 1, 0);
        due("term(1, 1, 0), FALLEN, the half up", two.term(1, 1, 0), 29);
        due("term(1, 1, 1)", two.term(1, 1, 1), 65);
        two.reigns(1);
        due("term(1, 1, 0), an even one", two.term(1, 1, 0), 1);
        two.works(999);
        due("term(1, 0, 1)", two.term(1, 0, 1), 999);
        due("TERM is as it was", two.heir(1, 3), 3);
        due("term(2, ..)", two.term(2, 1, 0), LeapKings.BAD);
        due("term(-1, ..)", two.term(-1, 1, 0), LeapKings.BAD);
        due("term(.., 61, ..)", two.term(0, 61, 0), LeapKings.BAD);
        due("term(.., -1, ..)", two.term(0, -1, 0), LeapKings.BAD);
        due("term(.., 2)", two.term(0, 1, 2), LeapKings.BAD);
        due("term(.., -1)", two.term(0, 1, -1), LeapKings.BAD);
        due("term of one", ONE.term(0, 1, 0), LeapKings.STATE);
        due("term bad of one", ONE.term(1, 1, 0), LeapKings.BAD);
    }

    private static void ache() {
        // 1 has SPRING 5 over a HEIGHT of 1: CLEAN up to LUMBAGO 4.
        LeapKings two = Checks.told("plain 9 1 3;plain 5 1 10;lumbago 5;works 50;");
        due("runs(1, 0)", two.runs(1, 0), 55);
        due("ache(1, 0)", two.ache(1, 0), 0);
        due("ache(1, 1)", two.ache(1, 1), 60);
        // CLEAN 10 up, 10 down; by 4 the SPRING stays, by 5 he FALLS at once: 5 up, 5 down.
        due("ache(2, 0)", two.ache(2, 0), 0);
        two.reigns(1);
        // An even one: FALLEN takes 5 off alone; the least LUMBAGO for that: SPRING is 4 now, so 4.
        due("SPRING", two.heir(1, 1), 4);
        due("ache(1, 0), an even one", two.ache(1, 0), 4);
        due("ache(1, 1)", two.ache(1, 1), 50);
        due("LUMBAGO is as it was", two.rule(3), 5);
        two.alter(1, 1, 10);
        due("ache(1, 0), CLEAN up to 9", two.ache(1, 0), 0);
        two.alter(1, 1, 9);
        due("ache(1, 0), the greatest", two.ache(1, 0), 9);
        due("ache(0, 0)", two.ache(0, 0), 0);
        due("ache(0, 1)", two.ache(0, 1), 55);
        due("ache(61, 0)", two.ache(61, 0), LeapKings.BAD);
        due("ache(-1, 0)", two.ache(-1, 0), LeapKings.BAD);
        due("ache(1, 2)", two.ache(1, 2), LeapKings.BAD);
        due("ache(1, -1)", two.ache(1, -1), LeapKings.BAD);
        due("ache of one", ONE.ache(1, 0), LeapKings.STATE);
        due("ache bad of one", ONE.ache(61, 0), LeapKings.BAD);
    }

    private static void builder() {
        // All CLEAN, four: 1 and 3 REIGN in turn, so 1 builds and 3 pulls down.
        LeapKings x = Checks.told("plain 9 1 3;plain 9 1 4;plain 9 1 5;plain 9 1 6;");
        due("builder(1, 0)", x.builder(1, 0), 1);
        due("builder(4, 0)", x.builder(4, 0), 1);
        due("builder(4, 1)", x.builder(4, 1), 8);
        due("builder(60, 1)", x.builder(60, 1), 120);
        x.works(999);
        due("builder(4, 1), WORKS at most", x.builder(4, 1), 8);
        x.reigns(1);
        due("builder(1, 0), an even one: nobody, the first", x.builder(1, 0), 0);
        due("builder(1, 1)", x.builder(1, 1), 0);
        due("builder(2, 0)", x.builder(2, 0), 1);
        due("builder(2, 1)", x.builder(2, 1), 4);
        // Three, all CLEAN: 1, 0, 2, 1, 0, 2: odd ones are 1, 2, 0, with 6 YEARS each of them: the first.
        LeapKings y = Checks.told("plain 9 1 6;plain 9 1 6;plain 9 1 6;");
        due("builder(3, 0), of several", y.builder(3, 0), 1);
        due("builder(6, 0), of several the first", y.builder(6, 0), 0);
        due("builder(6, 1)", y.builder(6, 1), 6);
        due("builder(0, 0)", y.builder(0, 0), LeapKings.BAD);
        due("builder(61, 0)", y.builder(61, 0), LeapKings.BAD);
        due("builder(1, 2)", y.builder(1, 2), LeapKings.BAD);
        due("builder(1, -1)", y.builder(1, -1), LeapKings.BAD);
        due("builder of one", ONE.builder(1, 0), LeapKings.STATE);
        due("builder bad of one", ONE.builder(0, 0), LeapKings.BAD);
    }

    public static void main(String[] args) {
        need();
        order();
        stool();
        term();
        ache();
        builder();
        CHECKS.finish();
    }
}
