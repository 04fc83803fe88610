/** The paragraph HOURS. */
public final class HoursEdgeTest {
    private static final Check CHECK = new Check();

    public static void main(String[] args) {
        litOnlyIfMaintained();
        litOnlyUntilBurntOut();
        chargeGrowsByTheCapacity();
        chargeStopsAtFull();
        hoursAreCounted();
        healthAtEachThousand();
        healthTwiceInACall();
        healthAtTheLastHour();
        healthStaysAtZero();
        chargeBeforeHealth();
        lampBeforeHealth();
        chargeIsCutBehindAll();
        chargeThatFitsStays();
        hoursOfAPlanAgeToo();
        hoursOneByOneOrTogether();
        CHECK.end();
    }

    private static void due(String call, long got, long want) {
        CHECK.due(call, got, want);
    }

    private static void litOnlyIfMaintained() {
        CHECK.sentence("if it is maintained, and its lamp is not burnt out, the lamp is lit for 60 minutes more");
        EscapeLights x = Edge.lightsAt(10, 10);
        x.maintain(1, true);
        x.pass(1);
        due("light(0, 8)", x.light(0, 8), 3000);
        due("light(1, 8)", x.light(1, 8), 2940);
        x.maintain(0, true);
        x.maintain(1, false);
        x.pass(2);
        due("light(0, 8)", x.light(0, 8), 2880);
        due("light(1, 8)", x.light(1, 8), 2940);
        x.pass(2000);
        due("light(0, 8)", x.light(0, 8), 0);
        due("light(1, 8)", x.light(1, 8), 2940);
    }

    private static void litOnlyUntilBurntOut() {
        CHECK.sentence("if its lamp is not burnt out: from 60 minutes to 0, and no farther");
        EscapeLights x = Edge.lightsAt(10);
        x.maintain(0, true);
        x.pass(49);
        due("light(0, 8)", x.light(0, 8), 60);
        x.pass(1);
        due("light(0, 8)", x.light(0, 8), 0);
        x.pass(1);
        due("light(0, 8) an hour later", x.light(0, 8), 0);
        x.setStock(0, 1);
        x.swap(0, 0);
        due("light(0, 8) with a new lamp", x.light(0, 8), 3000);
        x.pass(1);
        due("light(0, 8) an hour later", x.light(0, 8), 2940);
        due("light(0, 4) is still maintained", x.light(0, 4), 1);
        EscapeLights y = Edge.lightsAt(10);
        y.renew(0);
        y.pass(13);
        y.test(1, true);
        due("light(0, 11): 975 / 24", y.light(0, 11), 40);
        y.maintain(0, true);
        y.pass(49);
        due("light(0, 8)", y.light(0, 8), 20);
        due("told(9)", y.told(9), 0);
        y.pass(1);
        due("light(0, 8): not 20 - 60", y.light(0, 8), 0);
        due("told(9)", y.told(9), 1);
    }

    private static void chargeGrowsByTheCapacity() {
        CHECK.sentence("then the charge increases by the capacity (in minutes)");
        int[] capacity = {75, 112, 150, 225};
        for (int battery = 0; battery <= 3; battery++) {
            EscapeLights x = new EscapeLights();
            x.add(0, 0, battery, 0);
            x.renew(0);
            x.pass(1);
            due("light(0, 7) after an hour", x.light(0, 7), capacity[battery]);
            x.pass(22);
            due("light(0, 7) after 23", x.light(0, 7), 23 * capacity[battery]);
        }
    }

    private static void chargeStopsAtFull() {
        CHECK.sentence("the charge increases, but to 24 times the capacity at most");
        int[] capacity = {75, 112, 150, 225};
        for (int battery = 0; battery <= 3; battery++) {
            EscapeLights x = new EscapeLights();
            x.add(0, 0, battery, 0);
            x.pass(1);
            due("light(0, 7) of a full one", x.light(0, 7), 24 * capacity[battery]);
            x.renew(0);
            x.pass(24);
            due("light(0, 7) after 24 hours", x.light(0, 7), 24 * capacity[battery]);
            x.pass(1);
            due("light(0, 7) after 25", x.light(0, 7), 24 * capacity[battery]);
            x.renew(0);
            x.pass(25);
            due("light(0, 7) after 25 at once", x.light(0, 7), 24 * capacity[battery]);
            x.renew(0);
            x.pass(900);
            due("light(0, 7) after 900 at once", x.light(0, 7), 24 * capacity[battery]);
        }
    }

    private static void hoursAreCounted() {
        CHECK.sentence("The number of hours that have passed increases by 1");
        EscapeLights x = new EscapeLights();
        due("told(5) before the first hour", x.told(5), 0);
        x.pass(1);
        due("told(5)", x.told(5), 1);
        x.pass(998);
        due("told(5)", x.told(5), 999);
        x.pass(1);
        due("told(5)", x.told(5), 1000);
        x.pass(2000);
        due("told(5)", x.told(5), 3000);
        x.add(0, 0, 0, 0);
        x.pass(1999);
        due("told(5)", x.told(5), 4999);
        x.test(1, true);
        due("told(5) after a test", x.told(5), 4999);
        x.carryOut();
        due("told(5) after a plan of a day", x.told(5), 5023);
    }

    private static void healthAtEachThousand() {
        CHECK.sentence("when it becomes a multiple of 1000, the health of each battery decreases by 1");
        EscapeLights x = new EscapeLights();
        for (int battery = 0; battery <= 3; battery++) {
            x.add(0, 0, battery, 0);
        }
        dueHealth(x, "at first", 1000);
        x.pass(999);
        dueHealth(x, "at 999", 1000);
        x.pass(1);
        dueHealth(x, "at 1000", 999);
        x.pass(1);
        dueHealth(x, "at 1001", 999);
        x.pass(998);
        dueHealth(x, "at 1999", 999);
        x.pass(1);
        dueHealth(x, "at 2000", 998);
        x.pass(1);
        dueHealth(x, "at 2001", 998);
        x.pass(1999);
        dueHealth(x, "at 4000", 996);
    }

    private static void dueHealth(EscapeLights x, String when, int health) {
        for (int i = 0; i <= 3; i++) {
            due("light(" + i + ", 5) " + when, x.light(i, 5), health);
        }
    }

    private static void healthTwiceInACall() {
        CHECK.sentence("when it becomes a multiple of 1000: as often as one call goes past one");
        int[] before = {1, 1, 1, 999, 999, 999, 999, 1000, 1000, 500, 500};
        int[] hours = {998, 999, 2000, 1, 1000, 1001, 2000, 999, 2000, 1500, 1499};
        int[] health = {1000, 999, 998, 999, 999, 998, 998, 999, 997, 998, 999};
        for (int k = 0; k < before.length; k++) {
            EscapeLights x = Edge.lightsAt(10);
            x.pass(before[k]);
            x.pass(hours[k]);
            due("light(0, 5) after pass(" + before[k] + "), pass(" + hours[k] + ")", x.light(0, 5), health[k]);
            due("told(5)", x.told(5), before[k] + hours[k]);
        }
        EscapeLights y = Edge.lightsAt(10);
        y.pass(2000);
        due("light(0, 5) after pass(2000)", y.light(0, 5), 998);
    }

    private static void healthAtTheLastHour() {
        CHECK.sentence("when it becomes a multiple of 1000: up to 100000");
        EscapeLights x = Edge.lightsAt(10);
        Edge.pass(x, 99999);
        due("light(0, 5) at 99999", x.light(0, 5), 901);
        x.pass(1);
        due("light(0, 5) at 100000", x.light(0, 5), 900);
        due("light(0, 6)", x.light(0, 6), 67);
        due("light(0, 7)", x.light(0, 7), 24 * 67);
    }

    private static void healthStaysAtZero() {
        CHECK.sentence("the health of each battery decreases by 1, but not below 0");
        EscapeLights x = new EscapeLights();
        x.add(0, 0, 2, 0);
        Edge.test(x, 1, 333);
        due("light(0, 5)", x.light(0, 5), 1);
        x.pass(999);
        due("light(0, 5) at 999", x.light(0, 5), 1);
        x.pass(1);
        due("light(0, 5) at 1000", x.light(0, 5), 0);
        x.pass(1000);
        due("light(0, 5) at 2000", x.light(0, 5), 0);
        x.pass(2000);
        due("light(0, 5) at 4000", x.light(0, 5), 0);
        due("light(0, 6)", x.light(0, 6), 0);
        due("light(0, 7)", x.light(0, 7), 0);
    }

    private static void chargeBeforeHealth() {
        CHECK.sentence("the health decreases behind all this: the charge has grown by the old capacity");
        EscapeLights x = Edge.lightsAt(10);
        x.pass(999);
        x.renew(0);
        x.pass(1);
        due("light(0, 5)", x.light(0, 5), 999);
        due("light(0, 6)", x.light(0, 6), 74);
        due("light(0, 7)", x.light(0, 7), 75);
        x.pass(1);
        due("light(0, 7) an hour later", x.light(0, 7), 149);
        EscapeLights y = Edge.lightsAt(10);
        y.pass(990);
        y.renew(0);
        y.pass(20);
        due("light(0, 7): 10 * 75 + 10 * 74", y.light(0, 7), 1490);
    }

    private static void lampBeforeHealth() {
        CHECK.sentence("the health decreases behind all this: the lamp is lit in this hour too");
        EscapeLights x = Edge.lightsAt(10);
        x.pass(999);
        x.maintain(0, true);
        x.pass(1);
        due("light(0, 8)", x.light(0, 8), 2940);
        x.pass(49);
        due("light(0, 8)", x.light(0, 8), 0);
    }

    private static void chargeIsCutBehindAll() {
        CHECK.sentence("a charge that is greater than 24 times the capacity then becomes this");
        int[] capacity = {74, 112, 149, 224};
        for (int battery = 0; battery <= 3; battery++) {
            EscapeLights x = new EscapeLights();
            x.add(0, 0, battery, 0);
            x.pass(1000);
            due("light(0, 6) of class " + battery, x.light(0, 6), capacity[battery]);
            due("light(0, 7)", x.light(0, 7), 24 * capacity[battery]);
        }
        // 24 hours at the old capacity are more than a full battery of the new one
        EscapeLights y = Edge.lightsAt(10);
        y.pass(976);
        y.renew(0);
        y.pass(24);
        due("light(0, 7): 1800 becomes 1776", y.light(0, 7), 1776);
    }

    private static void chargeThatFitsStays() {
        CHECK.sentence("a charge that is greater than 24 times the capacity then becomes this: a smaller one stays");
        EscapeLights x = Edge.lightsAt(10);
        x.pass(977);
        x.renew(0);
        x.pass(23);
        due("light(0, 7): 1725 is less than 1776", x.light(0, 7), 1725);
        EscapeLights y = Edge.lightsAt(10);
        y.pass(1000);
        y.pass(999);
        due("light(0, 7)", y.light(0, 7), 1776);
        y.pass(1);
        due("light(0, 5)", y.light(0, 5), 998);
        due("light(0, 6): 74.85", y.light(0, 6), 74);
        due("light(0, 7) of the same capacity", y.light(0, 7), 1776);
    }

    private static void hoursOfAPlanAgeToo() {
        CHECK.sentence("when it becomes a multiple of 1000: in the hours of a plan too");
        EscapeLights x = Edge.lightsAt(10);
        x.pass(975);
        x.carryOut();
        due("told(5)", x.told(5), 999);
        due("light(0, 5)", x.light(0, 5), 995);
        x.carryOut();
        due("told(5)", x.told(5), 1023);
        due("light(0, 5)", x.light(0, 5), 989);
        EscapeLights y = Edge.lightsAt(10);
        y.pass(976);
        y.carryOut();
        due("told(5)", y.told(5), 1000);
        due("light(0, 5)", y.light(0, 5), 994);
    }

    private static void hoursOneByOneOrTogether() {
        CHECK.sentence("When an hour passes, for each light: many hours at once are as many hours one by one");
        int[] before = {0, 10, 23, 24, 990, 999, 1000};
        for (int first : before) {
            EscapeLights x = startedAt(first);
            EscapeLights y = startedAt(first);
            for (int k = 0; k < 60; k++) {
                x.pass(1);
            }
            y.pass(60);
            for (int i = 0; i < 4; i++) {
                for (int what = 0; what <= 12; what++) {
                    due("light(" + i + ", " + what + ") from " + first, x.light(i, what), y.light(i, what));
                }
            }
            due("told(5)", x.told(5), first + 60);
            due("told(5)", y.told(5), first + 60);
        }
    }

    private static EscapeLights startedAt(int hours) {
        EscapeLights x = new EscapeLights();
        for (int battery = 0; battery <= 3; battery++) {
            x.add(0, 0, battery, 0);
        }
        Edge.pass(x, hours);
        x.maintain(0, true);
        x.maintain(2, true);
        x.renew(1);
        x.renew(2);
        x.test(9, true);
        return x;
    }
}
