/** The calls of the face by their names, of the program and of the oracle. */
final class Calls {
    private Calls() {
    }

    static long ask(BalconiesParliament x, String name, int... a) {
        return switch (name) {
            case "quarter" -> x.quarter(a[0]);
            case "speaker" -> x.speaker(a[0], a[1]);
            case "balcony" -> x.balcony(a[0], a[1]);
            case "comes" -> x.comes(a[0], a[1]);
            case "builds" -> x.builds(a[0], a[1]);
            case "shuts" -> x.shuts(a[0]);
            case "thinks" -> x.thinks(a[0], a[1]);
            case "goes" -> x.goes(a[0], a[1]);
            case "quota" -> x.quota(a[0]);
            case "days" -> x.days(a[0]);
            case "carries" -> x.carries(a[0]);
            case "moodThen" -> x.moodThen(a[0], a[1]);
            case "then" -> x.then(a[0], a[1]);
            case "when" -> x.when();
            case "holds" -> x.holds(a[0]);
            case "could" -> x.could(a[0]);
            case "power" -> x.power(a[0], a[1]);
            case "groups" -> x.groups(a[0]);
            case "swings" -> x.swings(a[0]);
            case "win" -> x.win(a[0]);
            case "guest" -> x.guest(a[0], a[1], a[2]);
            case "shutter" -> x.shutter(a[0]);
            case "quotaMost" -> x.quotaMost();
            case "rent" -> x.rent(a[0], a[1]);
            case "bestRail" -> x.bestRail(a[0]);
            case "match" -> x.match(a[0]);
            case "lines" -> x.lines(a[0]);
            case "law" -> x.law(a[0], a[1]);
            case "whatIs" -> x.whatIs(a[0], a[1], a[2]);
            case "two" -> x.two(a[0], a[1]);
            case "rain" -> x.rain(a[0], a[1]);
            case "mean" -> x.mean(a[0]);
            case "forged" -> x.forged(a[0]);
            case "judge" -> x.judge(a[0]);
            case "streets" -> x.streets(a[0], a[1], a[2]);
            case "image" -> x.image();
            case "restore" -> x.restore();
            case "count" -> x.count(a[0]);
            case "keep" -> x.keep(a[0], a[1], a[2], a[3]);
            case "row" -> x.row(a[0], a[1], a[2]);
            case "put" -> x.put(a[0], a[1], a[2]);
            case "element" -> Due.element(x, a[0], a[1]);
            case "copy" -> x.copy(a[0], a[1], a[2], a[3], a[4]);
            case "cost" -> x.cost(a[0]);
            case "toss" -> x.toss(a[0]);
            default -> throw new AssertionError(name);
        };
    }

    static long ask(Oracle o, String name, int... a) {
        return switch (name) {
            case "quarter" -> o.quarter(a[0]);
            case "speaker" -> o.speaker(a[0], a[1]);
            case "balcony" -> o.balcony(a[0], a[1]);
            case "comes" -> o.comes(a[0], a[1]);
            case "builds" -> o.builds(a[0], a[1]);
            case "shuts" -> o.shuts(a[0]);
            case "thinks" -> o.thinks(a[0], a[1]);
            case "goes" -> o.goes(a[0], a[1]);
            case "quota" -> o.quota(a[0]);
            case "days" -> o.days(a[0]);
            case "carries" -> o.carries(a[0]);
            case "moodThen" -> o.moodThen(a[0], a[1]);
            case "then" -> o.then(a[0], a[1]);
            case "when" -> o.when();
            case "holds" -> o.holds(a[0]);
            case "could" -> o.could(a[0]);
            case "power" -> o.power(a[0], a[1]);
            case "groups" -> o.groups(a[0]);
            case "swings" -> o.swings(a[0]);
            case "win" -> o.win(a[0]);
            case "guest" -> o.guest(a[0], a[1], a[2]);
            case "shutter" -> o.shutter(a[0]);
            case "quotaMost" -> o.quotaMost();
            case "rent" -> o.rent(a[0], a[1]);
            case "bestRail" -> o.bestRail(a[0]);
            case "match" -> o.match(a[0]);
            case "lines" -> o.lines(a[0]);
            case "law" -> o.law(a[0], a[1]);
            case "whatIs" -> o.whatIs(a[0], a[1], a[2]);
            case "two" -> o.two(a[0], a[1]);
            case "rain" -> o.rain(a[0], a[1]);
            case "mean" -> o.mean(a[0]);
            case "forged" -> o.forged(a[0]);
            case "judge" -> o.judge(a[0]);
            case "streets" -> o.streets(a[0], a[1], a[2]);
            case "image" -> o.image();
            case "restore" -> o.restore();
            case "count" -> o.count(a[0]);
            case "keep" -> o.keep(a[0], a[1], a[2], a[3]);
            case "row" -> o.row(a[0], a[1], a[2]);
            case "put" -> o.put(a[0], a[1], a[2]);
            case "element" -> o.element(a[0], a[1]);
            case "copy" -> o.copy(a[0], a[1], a[2], a[3], a[4]);
            case "cost" -> o.cost(a[0]);
            case "toss" -> o.toss(a[0]);
            default -> throw new AssertionError(name);
        };
    }
}
