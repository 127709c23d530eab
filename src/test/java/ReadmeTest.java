/** The example of README.md, call by call: what it says comes out. */
public final class ReadmeTest {
    private static final Check check = new Check();

    public static void main(String[] args) {
        Slewfree site = new Slewfree();
        int crane = site.crane(40, 2);
        check.due("the first crane", crane, 0);
        check.due("its table", site.table(crane, 50, 38, 20, 11), 50);
        check.due("its zone", site.zone(crane, 4, 7, 22, 24), 1);
        int verdict = site.lift(crane, 40, 10, 18, 3);
        check.due("0, if it is done", verdict, 0);
        check.due("wind", site.wind(9, 3, 12), 0);
        int blows = site.pass(60);
        check.due("wind behind an hour", blows >= 9 && blows <= 12, true);
        check.due("an hour goes by", site.site(1), 1);
        String jibs = site.jibs();
        check.due("jibs", jibs, "L3");
        refusals(site);
        check.end();
    }

    /** Which exception is for what, as README.md tells it. */
    private static void refusals(Slewfree site) {
        check.thrown("no such crane", site, Check.NO_SUCH, x -> x.lift(1, 40, 10, 18, 3));
        check.thrown("no such page", site, Check.NO_SUCH, x -> x.tear(1));
        check.thrown("another wrong value", site, Check.BAD, x -> x.lift(0, 0, 10, 18, 3));
        check.thrown("a lift that is refused", site, Check.NOTHING, x -> x.lift(0, 51, 10, 18, 3));
        site.crane(10, 2);
        site.crane(10, 2);
        check.thrown("no room", site, Check.STATE, x -> x.crane(10, 2));
        Sites.blow(site, 13);
        check.thrown("a jib by a wind above 12", site, Check.STATE, x -> x.lock(0, true));
        Sites.passAll(site, 9999 - site.site(0));
        check.thrown("no time", site, Check.STATE, x -> x.pass(1));
    }
}
