/** The calls of the face by their names, for tests that choose calls from a table or by chance. */
final class Calls {
    private Calls() {
    }

    static int ask(HarvestLender x, String call, int... a) {
        switch (call) {
            case "setNeed": return x.setNeed(a[0], a[1], a[2]);
            case "setCrop": return x.setCrop(a[0], a[1], a[2]);
            case "add": return x.add(a[0]);
            case "farmers": return x.farmers();
            case "plant": return x.plant(a[0], a[1], a[2]);
            case "cover": return x.cover(a[0], a[1]);
            case "draw": return x.draw(a[0], a[1]);
            case "setYield": return x.setYield(a[0], a[1]);
            case "next": return x.next();
            case "pledge": return x.pledge(a[0], a[1]);
            case "sell": return x.sell(a[0], a[1]);
            case "repay": return x.repay(a[0], a[1]);
            case "close": return x.close();
            case "season": return x.season();
            case "stage": return x.stage();
            case "limit": return x.limit(a[0]);
            case "debt": return x.debt(a[0]);
            case "owes": return x.owes(a[0]);
            case "instalments": return x.instalments(a[0]);
            case "purse": return x.purse(a[0]);
            case "grain": return x.grain(a[0], a[1] == 1);
            case "called": return x.called(a[0]);
            case "repaid": return x.repaid(a[0], a[1]);
            case "charged": return x.charged(a[0]);
            default: throw new Error(call);
        }
    }
}
