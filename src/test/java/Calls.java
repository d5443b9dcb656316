/** Every method of the face by its name. */
final class Calls {
    private Calls() {
    }

    static long ofClass(PawnedHours x, String call, int... a) {
        return switch (call) {
            case "person" -> x.person();
            case "put" -> x.put(a[0], a[1], a[2], a[3]);
            case "hour" -> x.hour(a[0], a[1], a[2]);
            case "give" -> x.give(a[0], a[1]);
            case "of" -> x.of(a[0], a[1]);
            case "needs" -> x.needs(a[0], a[1]);
            case "terms" -> x.terms(a[0], a[1]);
            case "feed" -> x.feed(a[0], a[1], a[2], a[3], a[4]);
            case "end" -> x.end(a[0]);
            case "row" -> x.row(a[0]);
            case "rain" -> x.rain();
            case "law" -> x.law();
            case "orders" -> x.orders();
            case "fault" -> x.fault();
            case "stopped" -> x.stopped();
            case "force" -> x.force(a[0]);
            case "pawn" -> x.pawn(a[0], a[1]);
            case "redeem" -> x.redeem(a[0], a[1]);
            case "pass" -> x.pass();
            case "auction" -> x.auction(a[0], a[1]);
            case "undo" -> x.undo();
            case "met" -> x.met(a[0], a[1], a[2]);
            case "learned" -> x.learned(a[0], a[1]);
            case "deep" -> x.deep(a[0]);
            case "lies" -> x.lies(a[0]);
            case "forged" -> x.forged(a[0]);
            case "stray" -> x.stray(a[0], a[1]);
            case "raise" -> x.raise(a[0], a[1], a[2], a[3]);
            case "cheapest" -> x.cheapest(a[0], a[1]);
            case "bid" -> x.bid(a[0], a[1], a[2]);
            case "sale" -> x.sale(a[0]);
            case "lasting" -> x.lasting(a[0], a[1], a[2]);
            case "years" -> x.years(a[0], a[1]);
            case "drawn" -> x.drawn(a[0], a[1]);
            case "image" -> x.image(a[0]);
            case "back" -> x.back(a[0]);
            case "count" -> x.count(a[0]);
            case "status" -> x.status();
            default -> throw new IllegalArgumentException(call);
        };
    }

    static long ofModel(Model x, String call, int... a) {
        return switch (call) {
            case "person" -> x.person();
            case "put" -> x.put(a[0], a[1], a[2], a[3]);
            case "hour" -> x.hour(a[0], a[1], a[2]);
            case "give" -> x.give(a[0], a[1]);
            case "of" -> x.of(a[0], a[1]);
            case "needs" -> x.needs(a[0], a[1]);
            case "terms" -> x.terms(a[0], a[1]);
            case "feed" -> x.feed(a);
            case "end" -> x.end(a[0]);
            case "row" -> x.row(a[0]);
            case "rain" -> x.rain();
            case "law" -> x.law();
            case "orders" -> x.orders();
            case "fault" -> x.fault();
            case "stopped" -> x.stopped();
            case "force" -> x.force(a[0]);
            case "pawn" -> x.pawn(a[0], a[1]);
            case "redeem" -> x.redeem(a[0], a[1]);
            case "pass" -> x.pass();
            case "auction" -> x.auction(a[0], a[1]);
            case "undo" -> x.undo();
            case "met" -> x.met(a[0], a[1], a[2]);
            case "learned" -> x.learned(a[0], a[1]);
            case "deep" -> x.deep(a[0]);
            case "lies" -> x.lies(a[0]);
            case "forged" -> x.forged(a[0]);
            case "stray" -> x.stray(a[0], a[1]);
            case "raise" -> x.raise(a[0], a[1], a[2], a[3]);
            case "cheapest" -> x.cheapest(a[0], a[1]);
            case "bid" -> x.bid(a[0], a[1], a[2]);
            case "sale" -> x.sale(a[0]);
            case "lasting" -> x.lasting(a[0], a[1], a[2]);
            case "years" -> x.years(a[0], a[1]);
            case "drawn" -> x.drawn(a[0], a[1]);
            case "image" -> x.image(a[0]);
            case "back" -> x.back(a[0]);
            case "count" -> x.count(a[0]);
            case "status" -> x.status();
            default -> throw new IllegalArgumentException(call);
        };
    }
}
