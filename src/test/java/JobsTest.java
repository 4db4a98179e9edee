final class JobsTest {
    private static void order(Carcasswright shop, int... jobs) {
        for (int i = 0; i < jobs.length; i++) {
            Check.same("job at " + i, jobs[i], shop.jobAt(i));
        }
        Check.noIndex("behind the last one", () -> shop.jobAt(jobs.length));
    }

    static void promise44_job() {
        Carcasswright shop = new Carcasswright();
        Check.badArgument("colour", () -> shop.job(3, 1, 0));
        Check.badArgument("colour below", () -> shop.job(-1, 1, 0));
        Check.badArgument("hours", () -> shop.job(0, 0, 0));
        Check.badArgument("too many hours", () -> shop.job(0, 100, 0));
        Check.badArgument("due", () -> shop.job(0, 1, -1));
        Check.badArgument("due too late", () -> shop.job(0, 1, 1000));
        for (int i = 0; i < 6; i++) {
            Check.same("job", i, shop.job(i % 3, i == 0 ? 99 : 1, i == 0 ? 999 : 0));
        }
        Check.badArgument("argument first", () -> shop.job(0, 0, 0));
        Check.badState("a seventh", () -> shop.job(0, 1, 0));
    }

    static void promise45_setSetup() {
        Carcasswright shop = new Carcasswright();
        Check.same("at first", 2, shop.setSetup(99));
        Check.same("before", 99, shop.setSetup(0));
        Check.badArgument("too many", () -> shop.setSetup(100));
        Check.badArgument("below", () -> shop.setSetup(-1));
        Check.same("nothing changed", 0, shop.setSetup(0));
        shop.job(0, 5, 0);
        Check.same("without setup", 5, shop.lateness());
        shop.setSetup(7);
        Check.same("the first one takes it", 12, shop.lateness());
    }

    static void promise46_lateness() {
        Carcasswright shop = new Carcasswright();
        Check.same("without jobs", 0, shop.lateness());
        shop.job(1, 5, 7);
        Check.same("in time", 0, shop.lateness());
        shop.job(0, 3, 4);
        shop.job(1, 2, 20);
        Check.same("1 and 5", 6, shop.lateness());
        shop.job(1, 2, 0);
        // 3 by 4, 0 by 9, 1 by 14: 4, 2 and 10
        Check.same("with a fourth one", 16, shop.lateness());
    }

    static void promise46_allSix() {
        Carcasswright shop = new Carcasswright();
        for (int i = 0; i < 6; i++) {
            shop.job(i % 2, 10 - i, 0);
        }
        // the colour 1 first, the shortest ahead, then the colour 0
        Check.same("by colours", 7 + 14 + 23 + 31 + 39 + 49, shop.lateness());
        order(shop, 5, 3, 1, 4, 2, 0);
    }

    static void promise47_jobAt() {
        Carcasswright shop = new Carcasswright();
        order(shop);
        for (int i = 0; i < 6; i++) {
            shop.job(0, 5, 999);
        }
        order(shop, 0, 1, 2, 3, 4, 5);
        Check.noIndex("below", () -> shop.jobAt(-1));
        Carcasswright mixed = new Carcasswright();
        mixed.job(1, 5, 7);
        mixed.job(0, 3, 4);
        mixed.job(1, 2, 20);
        order(mixed, 1, 0, 2);
        mixed.setSetup(9);
        order(mixed, 0, 2, 1);
        Carcasswright late = new Carcasswright();
        late.job(0, 50, 999);
        late.job(1, 1, 3);
        late.job(2, 1, 999);
        // 1 must be first; of 0 and 2 behind it the lower one goes ahead
        order(late, 1, 0, 2);
    }

    private JobsTest() {
    }
}
