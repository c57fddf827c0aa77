/** For each promise of the document: ordinary inputs, edges and wrong inputs. */
public final class HarvestLenderPromises extends Checks {
    public static void main(String[] args) {
        newObject();
        setNeed();
        setCrop();
        add();
        farmers();
        plant();
        cover();
        draw();
        setYield();
        next();
        interest();
        harvest();
        pledge();
        sell();
        sellPledged();
        repay();
        close();
        closeRolls();
        closeRollsOnlyBadYears();
        closeCallsGroups();
        closeCallsInOrder();
        closeEight();
        seasonAndStage();
        limit();
        debt();
        owes();
        instalments();
        purse();
        grain();
        called();
        repaid();
        charged();
        constants();
        noSuchFarmer();
        failedCallsChangeNothing();
        largest();
        finish();
    }

    // ---- promises

    private static void newObject() {
        about = "promise 1 new object";
        HarvestLender x = new HarvestLender();
        due("farmers", x.farmers(), 0);
        due("season", x.season(), 0);
        due("stage", x.stage(), 0);
        thrown("debt(0)", INDEX, () -> x.debt(0));
        HarvestLender other = new HarvestLender();
        other.add(0);
        other.setNeed(0, 0, 7);
        due("another object is apart", x.farmers(), 0);
        due("another object's crops are apart", x.setNeed(0, 0, 8), 1000);
    }

    private static void setNeed() {
        about = "promise 2 setNeed";
        HarvestLender x = new HarvestLender();
        for (int crop = 0; crop < 3; crop++) {
            for (int stage = 0; stage < 4; stage++) {
                due("first need", x.setNeed(crop, stage, 10 * crop + stage), 1000);
            }
        }
        for (int crop = 0; crop < 3; crop++) {
            for (int stage = 0; stage < 4; stage++) {
                due("need before", x.setNeed(crop, stage, 100000), 10 * crop + stage);
            }
        }
        due("highest was taken", x.setNeed(2, 3, 0), 100000);
        due("lowest was taken", x.setNeed(2, 3, 5), 0);
        for (int bad : new int[] {-1, 3, BIG, SMALL}) {
            thrown("crop " + bad, INDEX, () -> x.setNeed(bad, 0, 1));
            thrown("crop before cents " + bad, INDEX, () -> x.setNeed(bad, 0, -1));
        }
        for (int bad : new int[] {-1, 4, BIG, SMALL}) {
            thrown("stage " + bad, INDEX, () -> x.setNeed(0, bad, 1));
            thrown("stage before cents " + bad, INDEX, () -> x.setNeed(0, bad, 100001));
        }
        for (int bad : new int[] {-1, 100001, BIG, SMALL}) {
            thrown("cents " + bad, ARGUMENT, () -> x.setNeed(2, 3, bad));
        }
        due("wrong calls changed nothing", x.setNeed(2, 3, 6), 5);
    }

    private static void setCrop() {
        about = "promise 3 setCrop";
        HarvestLender x = new HarvestLender();
        due("first price", x.setCrop(0, 5000, 100), 100);
        due("first price", x.setCrop(1, 1, 0), 100);
        due("first price", x.setCrop(2, 30, 10), 100);
        due("price before", x.setCrop(0, 7, 7), 5000);
        due("price before", x.setCrop(1, 7, 7), 1);
        due("price before", x.setCrop(2, 20, 10), 30);
        for (int bad : new int[] {-1, 3, BIG, SMALL}) {
            thrown("crop " + bad, INDEX, () -> x.setCrop(bad, 1, 1));
            thrown("crop before the rest " + bad, INDEX, () -> x.setCrop(bad, 0, 101));
        }
        for (int bad : new int[] {0, -1, 5001, BIG, SMALL}) {
            thrown("cents " + bad, ARGUMENT, () -> x.setCrop(2, bad, 1));
        }
        for (int bad : new int[] {-1, 101, BIG, SMALL}) {
            thrown("normal " + bad, ARGUMENT, () -> x.setCrop(2, 1, bad));
        }
        due("wrong calls changed nothing", x.setCrop(2, 25, 10), 20);
        x.add(0);
        x.plant(0, 2, 3);
        goTo(x, 4);
        due("normal yield counts", x.grain(0, false), 30);
        due("price counts", x.sell(0, 2), 50);
    }

    private static void add() {
        about = "promise 4 add";
        HarvestLender x = new HarvestLender();
        for (int bad : new int[] {-1, 3, BIG, SMALL}) {
            thrown("group " + bad, INDEX, () -> x.add(bad));
        }
        for (int i = 0; i < 8; i++) {
            due("number", x.add(i % 3), i);
        }
        thrown("a ninth", STATE, () -> x.add(0));
        thrown("group before the number", INDEX, () -> x.add(3));
        due("farmers", x.farmers(), 8);
    }

    private static void farmers() {
        about = "promise 5 farmers";
        HarvestLender x = new HarvestLender();
        for (int i = 0; i < 8; i++) {
            due("farmers", x.farmers(), i);
            x.add(2);
        }
        due("farmers", x.farmers(), 8);
        HarvestLender late = with(1, 0);
        goTo(late, 4);
        due("added late", late.add(1), 1);
        due("farmers", late.farmers(), 2);
        zero(late, 1);
    }

    private static void plant() {
        about = "promise 6 plant";
        HarvestLender x = with(3, 0);
        x.setNeed(1, 0, 30);
        for (int bad : new int[] {-1, 3, BIG, SMALL}) {
            thrown("farmer " + bad, INDEX, () -> x.plant(bad, 0, 1));
            thrown("crop " + bad, INDEX, () -> x.plant(0, bad, 1));
            thrown("crop before hectares " + bad, INDEX, () -> x.plant(0, bad, 0));
            thrown("farmer before hectares " + bad, INDEX, () -> x.plant(bad, 0, 51));
        }
        for (int bad : new int[] {0, -1, 51, BIG, SMALL}) {
            thrown("hectares " + bad, ARGUMENT, () -> x.plant(0, 0, bad));
        }
        due("limit", x.limit(0), 0);
        due("most hectares", x.plant(0, 1, 50), 1500);
        due("fewest hectares", x.plant(1, 1, 1), 30);
        thrown("planted already", STATE, () -> x.plant(0, 1, 1));
        thrown("planted already, another crop", STATE, () -> x.plant(0, 2, 1));
        thrown("hectares before planted", ARGUMENT, () -> x.plant(0, 1, 51));
        due("limit stands", x.limit(0), 1500);
        for (int stage = 1; stage <= 4; stage++) {
            x.next();
            thrown("stage " + stage, STATE, () -> x.plant(2, 0, 1));
            thrown("crop before stage", INDEX, () -> x.plant(2, 3, 1));
            thrown("hectares before stage", ARGUMENT, () -> x.plant(2, 0, 0));
        }
        x.pledge(0, 1);
        x.sell(0, 2499);
        x.close();
        thrown("one pledged unit of another crop", STATE, () -> x.plant(0, 0, 1));
        due("the same crop", x.plant(0, 1, 2), 60);
        thrown("grain of another crop", STATE, () -> x.plant(1, 2, 1));
        x.sell(1, 50);
        due("grain is sold", x.plant(1, 2, 1), 1000);
        due("never planted before", x.plant(2, 0, 1), 1000);
        goTo(x, 4);
        due("grain added to the old", x.grain(0, false), 101);
    }

    private static void cover() {
        about = "promise 7 cover";
        HarvestLender x = with(2, 0);
        thrown("not planted", STATE, () -> x.cover(0, 50));
        x.plant(0, 0, 2);
        due("none before", x.cover(0, 1), 0);
        due("before", x.cover(0, 90), 1);
        for (int bad : new int[] {0, -1, 91, BIG, SMALL}) {
            thrown("percent " + bad, ARGUMENT, () -> x.cover(0, bad));
            thrown("percent before planted " + bad, ARGUMENT, () -> x.cover(1, bad));
            thrown("farmer before percent " + bad, INDEX, () -> x.cover(2, bad));
        }
        due("before", x.cover(0, 80), 90);
        x.setYield(0, 79);
        for (int stage = 1; stage <= 4; stage++) {
            x.next();
            thrown("stage " + stage, STATE, () -> x.cover(0, 50));
            thrown("percent before stage", ARGUMENT, () -> x.cover(0, 0));
        }
        due("paid", x.purse(0), 100);
        x.close();
        thrown("not planted in this season", STATE, () -> x.cover(0, 50));
        x.plant(0, 0, 2);
        due("cover is of the season", x.cover(0, 60), 0);
    }

    private static void draw() {
        about = "promise 8 draw";
        HarvestLender x = with(2, 0);
        x.setNeed(0, 1, 10);
        thrown("nothing planted", STATE, () -> x.draw(0, 1));
        x.plant(0, 0, 3);
        for (int bad : new int[] {0, -1, 100000001, BIG, SMALL}) {
            thrown("cents " + bad, ARGUMENT, () -> x.draw(0, bad));
            thrown("farmer before cents " + bad, INDEX, () -> x.draw(2, bad));
        }
        thrown("cents at the top", STATE, () -> x.draw(0, 100000000));
        thrown("above the limit", STATE, () -> x.draw(0, 3001));
        due("some", x.draw(0, 1), 2999);
        due("debt", x.debt(0), 1);
        due("purse", x.purse(0), 0);
        due("the rest", x.draw(0, 2999), 0);
        thrown("one more", STATE, () -> x.draw(0, 1));
        x.next();
        due("the next need", x.draw(0, 29), 1);
        thrown("above", STATE, () -> x.draw(0, 2));
        due("all", x.draw(0, 1), 0);
        x.setNeed(0, 0, 0);
        x.next();
        thrown("the limit has fallen to what is drawn", STATE, () -> x.draw(0, 1));
        x.next();
        due("6030 at the stage 3", x.limit(0), 6030);
        due("what is left", x.draw(0, 3), 2997);
        x.next();
        thrown("stage 4", STATE, () -> x.draw(0, 1));
        thrown("cents before stage", ARGUMENT, () -> x.draw(0, 0));
        x.close();
        x.setNeed(0, 0, 1);
        x.plant(0, 0, 3);
        due("drawings are of the season", x.draw(0, 2), 1);
    }

    private static void setYield() {
        about = "promise 9 setYield";
        HarvestLender x = with(2, 0);
        due("none told, not planted", x.setYield(0, 0), 100);
        due("told", x.setYield(0, 200), 0);
        for (int bad : new int[] {-1, 201, BIG, SMALL}) {
            thrown("percent " + bad, ARGUMENT, () -> x.setYield(0, bad));
            thrown("farmer before percent " + bad, INDEX, () -> x.setYield(2, bad));
        }
        due("of one farmer", x.setYield(1, 5), 100);
        x.plant(0, 0, 1);
        for (int stage = 1; stage < 4; stage++) {
            x.next();
            due("at the stage " + stage, x.setYield(0, 200 - stage), 201 - stage);
        }
        x.next();
        thrown("stage 4", STATE, () -> x.setYield(0, 50));
        thrown("percent before stage", ARGUMENT, () -> x.setYield(0, 201));
        due("the last one counts, rounded down", x.grain(0, false), 98);
        x.close();
        due("yield is of the season", x.setYield(0, 1), 100);
    }

    private static void next() {
        about = "promise 10 next";
        HarvestLender x = with(1, 0);
        for (int stage = 1; stage <= 4; stage++) {
            due("stage", x.next(), stage);
        }
        thrown("stage 4", STATE, x::next);
        due("stage", x.stage(), 4);
        x.close();
        due("stage", x.next(), 1);
    }

    private static void interest() {
        about = "promise 10 next, interest";
        HarvestLender x = with(3, 0);
        x.plant(0, 0, 1);
        x.plant(1, 0, 1);
        x.draw(0, 49);
        x.draw(1, 50);
        x.next();
        due("rounded down", x.debt(0), 49);
        due("2 percent", x.debt(1), 51);
        due("no debt", x.debt(2), 0);
        x.draw(0, 1000);
        goTo(x, 4);
        due("with the stage 4 too", x.debt(0), 1111);
        due("compound", x.debt(1), 54);
        x.close();
        due("none at the close", x.debt(0), 1111);
    }

    private static void harvest() {
        about = "promise 10 next, harvest";
        HarvestLender x = with(5, 0);
        x.setCrop(1, 7, 3);
        x.plant(0, 1, 11);
        x.cover(0, 90);
        x.setYield(0, 89);
        x.plant(1, 1, 11);
        x.cover(1, 90);
        x.setYield(1, 90);
        x.plant(2, 1, 11);
        x.cover(2, 50);
        x.setYield(2, 0);
        x.draw(2, 10);
        x.setYield(3, 0);
        x.plant(4, 1, 11);
        x.setYield(4, 0);
        goTo(x, 3);
        due("not before the stage 4", x.grain(0, false) + x.purse(2), 0);
        x.setCrop(1, 9, 3);
        x.next();
        due("33 * 89 / 100", x.grain(0, false), 29);
        due("33 * 9 * 1 / 100", x.purse(0), 2);
        due("not below the cover", x.purse(1), 0);
        due("33 * 90 / 100", x.grain(1, false), 29);
        due("no yield", x.grain(2, false), 0);
        due("33 * 9 * 50 / 100 less the debt", x.purse(2), 138);
        due("debt is paid first", x.debt(2), 0);
        due("from COVER", x.repaid(2, HarvestLender.COVER), 10);
        due("not planted", x.grain(3, false) + x.purse(3), 0);
        due("without cover", x.purse(4), 0);
        x.close();
        goTo(x, 4);
        due("planted last season only", x.grain(0, false), 29);
    }

    private static void pledge() {
        about = "promise 11 pledge";
        HarvestLender x = with(2, 0);
        thrown("no grain", STATE, () -> x.pledge(0, 1));
        for (int bad : new int[] {0, -1, 1000001, BIG, SMALL}) {
            thrown("units before grain " + bad, ARGUMENT, () -> x.pledge(0, bad));
            thrown("farmer before units " + bad, INDEX, () -> x.pledge(2, bad));
        }
        x.setCrop(2, 3, 50);
        x.plant(0, 2, 1);
        x.draw(0, 2);
        goTo(x, 4);
        thrown("units at the top", STATE, () -> x.pledge(0, 1000000));
        thrown("above the grain", STATE, () -> x.pledge(0, 51));
        due("60 percent of 3, rounded down", x.pledge(0, 1), 1);
        due("debt first", x.debt(0), 1);
        due("purse", x.purse(0), 0);
        due("60 percent of 9", x.pledge(0, 3), 5);
        due("debt is gone", x.debt(0), 0);
        due("the rest to the purse", x.purse(0), 4);
        due("from PLEDGE", x.repaid(0, HarvestLender.PLEDGE), 2);
        due("pledge debt", x.owes(0), 6);
        due("pledged", x.grain(0, true), 4);
        due("all grain", x.grain(0, false), 50);
        thrown("above what is not pledged", STATE, () -> x.pledge(0, 47));
        x.close();
        x.setCrop(2, 1, 50);
        due("at the price now", x.pledge(0, 46), 27);
        thrown("all is pledged", STATE, () -> x.pledge(0, 1));
        due("called pledge debt", x.owes(0), 33);
        x.next();
        due("no interest on pledge debt", x.owes(0), 33);
    }

    private static void sell() {
        about = "promise 12 sell";
        HarvestLender x = with(2, 0);
        thrown("no grain", STATE, () -> x.sell(0, 1));
        for (int bad : new int[] {0, -1, 1000001, BIG, SMALL}) {
            thrown("units before grain " + bad, ARGUMENT, () -> x.sell(0, bad));
            thrown("farmer before units " + bad, INDEX, () -> x.sell(2, bad));
        }
        x.setCrop(1, 10, 50);
        x.plant(0, 1, 1);
        x.draw(0, 100);
        goTo(x, 4);
        due("debt", x.debt(0), 108);
        thrown("units at the top", STATE, () -> x.sell(0, 1000000));
        thrown("above the grain", STATE, () -> x.sell(0, 51));
        due("price", x.sell(0, 10), 100);
        due("debt first", x.debt(0), 8);
        due("price", x.sell(0, 1), 10);
        due("debt is gone", x.debt(0), 0);
        due("the rest to the purse", x.purse(0), 2);
        due("from SALE", x.repaid(0, HarvestLender.SALE), 108);
        x.close();
        x.setCrop(1, 4, 50);
        x.setCrop(0, 5000, 50);
        due("of the grain's crop, at the price now", x.sell(0, 39), 156);
        thrown("all is sold", STATE, () -> x.sell(0, 1));
        due("charged nothing", x.charged(0), 108);
    }

    private static void sellPledged() {
        about = "promise 12 sell, pledged grain";
        HarvestLender x = with(1, 0);
        x.plant(0, 0, 1);
        goTo(x, 4);
        x.pledge(0, 20);
        due("purse", x.purse(0), 1200);
        x.sell(0, 30);
        due("not pledged first", x.grain(0, true), 20);
        due("pledge debt stands", x.owes(0), 1200);
        due("purse", x.purse(0), 4200);
        due("price of pledged ones", x.sell(0, 5), 500);
        due("lowers the pledge debt", x.owes(0), 700);
        due("nothing comes", x.purse(0), 4200);
        x.sell(0, 8);
        due("the rest comes", x.purse(0), 4300);
        due("no pledge debt", x.owes(0), 0);
        due("still pledged", x.grain(0, true), 7);
        x.sell(0, 7);
        due("all comes", x.purse(0), 5000);
        due("none is added", x.debt(0) + x.charged(0), 0);

        HarvestLender y = with(1, 0);
        y.plant(0, 0, 1);
        goTo(y, 4);
        y.pledge(0, 20);
        y.setCrop(0, 10, 50);
        y.sell(0, 49);
        due("one is pledged still", y.debt(0), 0);
        due("1200 less 190", y.owes(0), 1010);
        y.sell(0, 1);
        due("what is left", y.debt(0), 1000);
        due("is charged", y.charged(0), 1000);
        due("not owed twice", y.owes(0), 1000);
        due("not paid by the sale", y.repaid(0, HarvestLender.SALE), 0);
        due("purse", y.purse(0), 1500);

        HarvestLender z = with(1, 0);
        z.plant(0, 0, 1);
        z.draw(0, 100);
        goTo(z, 4);
        z.pledge(0, 1);
        due("debt", z.debt(0), 48);
        z.setCrop(0, 1, 50);
        due("a sale of both kinds", z.sell(0, 50), 50);
        due("what is left stands behind the sale", z.debt(0), 59);
        due("SALE", z.repaid(0, HarvestLender.SALE), 48);
        due("the rest of the sale", z.purse(0), 1);
        due("charged", z.charged(0), 108 + 59);
    }

    private static void repay() {
        about = "promise 13 repay";
        HarvestLender x = sold(100, 500);
        for (int bad : new int[] {0, -1, 100000001, BIG, SMALL}) {
            thrown("cents " + bad, ARGUMENT, () -> x.repay(0, bad));
            thrown("farmer before cents " + bad, INDEX, () -> x.repay(3, bad));
        }
        thrown("no debt", STATE, () -> x.repay(0, 1));
        x.close();
        x.plant(0, 0, 1);
        x.draw(0, 600);
        int purse = x.purse(0);
        due("purse", purse, 392);
        thrown("above the purse", STATE, () -> x.repay(0, 393));
        thrown("cents at the top", STATE, () -> x.repay(0, 100000000));
        due("debt then", x.repay(0, 390), 210);
        due("purse then", x.purse(0), 2);
        due("from PURSE", x.repaid(0, HarvestLender.PURSE), 390);
        due("all of the purse", x.repay(0, 2), 208);
        HarvestLender y = sold(100, 5000);
        y.close();
        y.plant(0, 0, 1);
        y.draw(0, 600);
        thrown("above the debt", STATE, () -> y.repay(0, 601));
        due("all of the debt", y.repay(0, 600), 0);
    }

    private static void close() {
        about = "promise 14 close";
        HarvestLender x = with(1, 0);
        for (int stage = 0; stage < 4; stage++) {
            thrown("stage " + stage, STATE, x::close);
            x.next();
        }
        for (int season = 1; season <= 20; season++) {
            goTo(x, 4);
            due("season", x.close(), season);
            due("season", x.season(), season);
            due("stage", x.stage(), 0);
        }
        thrown("season 20 at the stage 0", STATE, x::close);
        due("planting in the season 20", x.plant(0, 0, 1), 1000);
        goTo(x, 4);
        due("harvest in the season 20", x.grain(0, false), 50);
        thrown("season 20", STATE, x::close);
        due("season", x.season(), 20);
        due("stage", x.stage(), 4);

        HarvestLender y = with(2, 0);
        y.plant(0, 0, 1);
        goTo(y, 4);
        y.pledge(0, 50);
        y.setCrop(0, 59, 50);
        y.sell(0, 50);
        due("debt", y.debt(0), 50);
        due("purse", y.purse(0), 3000);
        y.close();
        due("repaid from PURSE", y.repaid(0, HarvestLender.PURSE), 50);
        due("debt then", y.debt(0), 0);
        due("purse then", y.purse(0), 2950);
        due("season's limit is gone", y.limit(0), 0);
    }

    private static void closeRolls() {
        about = "promise 14 close, rolled debts";
        HarvestLender x = with(2, 0);
        x.plant(1, 0, 50);
        goTo(x, 4);
        x.sell(1, 2500);
        x.close();
        x.plant(0, 0, 1);
        x.draw(0, 1000);
        x.setYield(0, 59);
        goTo(x, 4);
        x.close();
        due("three", x.instalments(0), 3);
        due("debt", x.debt(0), 0);
        due("owes", x.owes(0), 1081);
        due("the group isn't called", x.purse(1), 250000);
        goTo(x, 4);
        due("no interest on them", x.owes(0), 1081);
        due("none before the close", x.instalments(0), 3);
        x.close();
        due("two", x.instalments(0), 2);
        due("the group pays the first", x.called(1), 360);
        due("debt", x.debt(0), 0);
        due("owes", x.owes(0), 721);
        goTo(x, 4);
        x.close();
        due("the second", x.called(1), 360);
        due("owes", x.owes(0), 361);
        x.plant(0, 0, 1);
        x.setYield(0, 0);
        goTo(x, 4);
        x.close();
        due("the rest is rolled as the row is empty by then", x.instalments(0), 3);
        due("owes", x.owes(0), 361);
        due("nobody pays", x.called(1), 0);
        x.plant(0, 0, 1);
        x.draw(0, 1000);
        x.setYield(0, 0);
        goTo(x, 4);
        x.close();
        due("not rolled while there are others", x.instalments(0), 2);
        due("the group pays all of the debt", x.called(1), 1081 + 120);
        due("owes the others", x.owes(0), 241);
        x.plant(0, 0, 1);
        x.draw(0, 1000);
        x.setYield(0, 0);
        goTo(x, 4);
        x.close();
        due("not rolled while there is one", x.instalments(0), 1);
        due("owes that one", x.owes(0), 121);
        x.plant(0, 0, 1);
        x.draw(0, 1000);
        x.setYield(0, 0);
        goTo(x, 4);
        x.close();
        due("rolled with the last one", x.instalments(0), 3);
        due("owes", x.owes(0), 1202);
        due("nobody pays", x.called(1), 0);
    }

    private static void closeRollsOnlyBadYears() {
        about = "promise 14 close, what is rolled";
        HarvestLender x = with(5, 2);
        for (int i = 0; i < 4; i++) {
            x.plant(i, 0, 1);
            x.draw(i, i == 3 ? 1 : 2);
        }
        x.setYield(0, 60);
        x.setYield(1, 59);
        x.setYield(2, 59);
        x.setYield(3, 59);
        x.setYield(4, 0);
        goTo(x, 4);
        x.sell(2, 29);
        x.close();
        due("a yield of 60", x.instalments(0), 0);
        due("the group pays for it", x.debt(0), 0);
        due("GROUP", x.repaid(0, HarvestLender.GROUP), 2);
        due("below 60", x.instalments(1), 3);
        due("owes", x.owes(1), 2);
        due("no debt", x.instalments(2), 0);
        due("one cent", x.instalments(3), 3);
        due("not planted", x.instalments(4), 0);
        goTo(x, 4);
        x.setCrop(0, 1, 50);
        x.close();
        due("a third rounded down is nothing", x.debt(1), 0);
        due("left", x.instalments(1), 2);
        goTo(x, 4);
        x.close();
        due("left", x.instalments(3), 1);
        due("owes", x.owes(3), 1);
        goTo(x, 4);
        x.close();
        due("left", x.instalments(3), 0);
        due("the last one is the rest", x.repaid(3, HarvestLender.GROUP), 1);
        due("the last one is the rest", x.repaid(1, HarvestLender.GROUP), 2);
        due("by the one with a purse", x.called(2), 3);

        HarvestLender y = with(1, 0);
        y.plant(0, 0, 1);
        y.draw(0, 1000);
        goTo(y, 4);
        y.close();
        y.setYield(0, 0);
        goTo(y, 4);
        y.close();
        due("a bad year without planting", y.instalments(0), 0);
        due("debt stays", y.debt(0), 1168);
    }

    private static void closeCallsGroups() {
        about = "promise 14 close, groups";
        HarvestLender x = new HarvestLender();
        x.add(0);
        x.add(1);
        x.add(0);
        x.add(0);
        x.setNeed(1, 0, 100000);
        x.setCrop(0, 1, 100);
        for (int i = 1; i < 4; i++) {
            x.plant(i, 0, 50);
            x.setYield(i, 200);
        }
        x.plant(0, 1, 1);
        x.draw(0, 50000);
        goTo(x, 4);
        x.setCrop(0, 5, 100);
        x.sell(1, 10000);
        x.sell(2, 10000);
        x.sell(3, 10000);
        x.setCrop(1, 1, 0);
        due("debt", x.debt(0), 54121);
        x.close();
        due("two of the group, 20000 each", x.debt(0), 14121);
        due("not of another group", x.purse(1), 50000);
        due("purse", x.purse(2), 30000);
        due("purse", x.purse(3), 30000);
        due("GROUP", x.repaid(0, HarvestLender.GROUP), 40000);
        due("who pays has repaid nothing", x.repaid(2, HarvestLender.GROUP), 0);
        due("called", x.called(2), 20000);
        goTo(x, 4);
        x.close();
        due("one pays all", x.called(2), 15283);
        due("the next one nothing", x.called(3), 0);
        due("debt", x.debt(0), 0);
    }

    private static void closeCallsInOrder() {
        about = "promise 14 close, order";
        HarvestLender x = with(4, 1);
        x.setNeed(0, 0, 15000);
        for (int i = 0; i < 4; i++) {
            x.plant(i, 0, i == 1 ? 50 : 1);
        }
        x.draw(0, 15000);
        x.draw(2, 14000);
        x.draw(3, 1);
        x.setYield(2, 60);
        goTo(x, 4);
        x.sell(1, 2500);
        x.sell(3, 1);
        due("debts", x.debt(0), 16236);
        due("debts", x.debt(2), 15153);
        due("purse of the last", x.purse(3), 99);
        x.close();
        due("first debtor", x.debt(0), 0);
        due("the cap is for all others together", x.called(1), 20000);
        due("the last one pays what he has", x.called(3), 99);
        due("second debtor", x.debt(2), 15153 - 3764 - 99);
        due("GROUP", x.repaid(2, HarvestLender.GROUP), 3863);
        due("no purse below 0", x.purse(3), 0);
        goTo(x, 4);
        x.close();
        due("the cap begins anew", x.called(1), 12218);

        HarvestLender y = with(2, 0);
        y.plant(0, 0, 1);
        y.draw(0, 1000);
        y.plant(1, 0, 50);
        y.draw(1, 50000);
        goTo(y, 4);
        y.pledge(1, 2000);
        y.setCrop(0, 1, 50);
        y.sell(1, 2500);
        due("debt of the second", y.debt(1), 118000);
        due("his purse", y.purse(1), 66379);
        y.close();
        due("a purse pays its own debt before others'", y.called(1), 0);
        due("his debt", y.debt(1), 118000 - 66379);
        due("the first one's debt", y.debt(0), 1081);
    }

    private static void closeEight() {
        about = "promise 14 close, eight farmers";
        HarvestLender x = with(8, 2);
        for (int i = 0; i < 8; i++) {
            x.plant(i, 0, i == 7 ? 50 : 1);
        }
        x.draw(7, 50000);
        goTo(x, 4);
        x.setCrop(0, 1000, 50);
        for (int i = 0; i < 8; i++) {
            due("harvest of " + i, x.grain(i, false), i == 7 ? 2500 : 50);
            if (i == 0 || i == 6) {
                x.sell(i, 50);
            }
        }
        due("debt", x.debt(7), 54121);
        x.close();
        due("the first farmer pays", x.called(0), 20000);
        due("the others have nothing", x.called(5), 0);
        due("the seventh pays", x.called(6), 20000);
        due("the last one owes", x.debt(7), 14121);
        due("the last one's season is over", x.limit(7), 0);
        thrown("farmer 8", INDEX, () -> x.debt(8));
    }

    private static void seasonAndStage() {
        about = "promise 15 season, 16 stage";
        HarvestLender x = new HarvestLender();
        due("season", x.season(), 0);
        for (int stage = 0; stage < 4; stage++) {
            due("stage", x.stage(), stage);
            x.next();
        }
        due("stage", x.stage(), 4);
        due("season", x.season(), 0);
        x.close();
        due("season", x.season(), 1);
        due("stage", x.stage(), 0);
    }

    private static void limit() {
        about = "promise 17 limit";
        HarvestLender x = with(2, 0);
        x.setNeed(1, 0, 1);
        x.setNeed(1, 1, 10);
        x.setNeed(1, 2, 100);
        x.setNeed(1, 3, 1000);
        x.plant(0, 1, 2);
        int[] limits = {2, 22, 222, 2222, 2222};
        for (int stage = 0; stage < 5; stage++) {
            due("limit at the stage " + stage, x.limit(0), limits[stage]);
            due("not planted", x.limit(1), 0);
            if (stage < 4) {
                x.next();
            }
        }
        x.setNeed(1, 0, 5);
        due("needs of now", x.limit(0), 2230);
        x.close();
        due("without a planted crop", x.limit(0), 0);
    }

    private static void debt() {
        about = "promise 18 debt";
        HarvestLender x = with(2, 0);
        due("at first", x.debt(0), 0);
        x.plant(0, 0, 1);
        x.draw(0, 300);
        due("drawn", x.debt(0), 300);
        due("of another", x.debt(1), 0);
        x.draw(0, 50);
        due("drawn more", x.debt(0), 350);
        x.next();
        due("interest", x.debt(0), 357);
    }

    private static void owes() {
        about = "promise 19 owes";
        HarvestLender x = with(1, 0);
        due("at first", x.owes(0), 0);
        x.plant(0, 0, 1);
        x.draw(0, 1000);
        x.setYield(0, 2);
        goTo(x, 4);
        due("the debt", x.owes(0), 1081);
        x.close();
        due("the instalments", x.owes(0), 1081);
        x.pledge(0, 1);
        due("and the pledge debt", x.owes(0), 1141);
        x.plant(0, 0, 1);
        x.draw(0, 7);
        due("and the debt", x.owes(0), 1148);
        goTo(x, 4);
        x.close();
        due("first instalment, less the purse", x.owes(0), 1088);
        due("debt", x.debt(0), 307);
    }

    private static void instalments() {
        about = "promise 20 instalments";
        HarvestLender x = with(1, 0);
        due("at first", x.instalments(0), 0);
        x.plant(0, 0, 1);
        x.draw(0, 1000);
        x.setYield(0, 0);
        goTo(x, 4);
        due("before the close", x.instalments(0), 0);
        for (int left = 3; left >= 0; left--) {
            x.close();
            due("left", x.instalments(0), left);
            goTo(x, 4);
        }
        x.close();
        due("none left", x.instalments(0), 0);
    }

    private static void purse() {
        about = "promise 21 purse";
        HarvestLender x = sold(0, 5000);
        due("the price", x.purse(0), 5000);
        due("of another", x.purse(1), 0);
        x.close();
        x.plant(0, 0, 1);
        x.draw(0, 9);
        due("drawings don't come to it", x.purse(0), 5000);
        x.repay(0, 4);
        due("repaid", x.purse(0), 4996);
    }

    private static void grain() {
        about = "promise 22 grain";
        HarvestLender x = with(2, 0);
        due("at first", x.grain(0, false), 0);
        due("at first", x.grain(0, true), 0);
        x.plant(0, 0, 2);
        goTo(x, 4);
        due("all", x.grain(0, false), 100);
        due("pledged", x.grain(0, true), 0);
        x.pledge(0, 40);
        due("all", x.grain(0, false), 100);
        due("pledged", x.grain(0, true), 40);
        x.sell(0, 70);
        due("all", x.grain(0, false), 30);
        due("pledged", x.grain(0, true), 30);
        x.close();
        due("it stays", x.grain(0, false), 30);
        x.plant(0, 0, 2);
        goTo(x, 4);
        due("all", x.grain(0, false), 130);
        due("pledged", x.grain(0, true), 30);
        due("of another", x.grain(1, false), 0);
    }

    private static void called() {
        about = "promise 23 called";
        HarvestLender x = with(2, 0);
        due("before any close", x.called(1), 0);
        x.plant(0, 0, 1);
        x.draw(0, 1000);
        x.plant(1, 0, 1);
        goTo(x, 4);
        x.sell(1, 50);
        x.close();
        due("at the last close", x.called(1), 1081);
        due("the debtor", x.called(0), 0);
        goTo(x, 4);
        due("until the next close", x.called(1), 1081);
        x.close();
        due("then nothing", x.called(1), 0);
        due("added later", x.add(0), 2);
        due("added later", x.called(2), 0);
    }

    private static void repaid() {
        about = "promise 24 repaid";
        HarvestLender x = with(2, 0);
        for (int source = 0; source < 5; source++) {
            due("at first", x.repaid(0, source), 0);
        }
        for (int bad : new int[] {-1, 5, BIG, SMALL}) {
            thrown("source " + bad, ARGUMENT, () -> x.repaid(0, bad));
            thrown("farmer before source " + bad, INDEX, () -> x.repaid(2, bad));
        }
        x.plant(1, 0, 1);
        x.plant(0, 0, 4);
        x.draw(0, 4000);
        x.cover(0, 61);
        x.setYield(0, 60);
        goTo(x, 4);
        x.sell(1, 50);
        due("COVER", x.repaid(0, HarvestLender.COVER), 200);
        x.pledge(0, 10);
        due("PLEDGE", x.repaid(0, HarvestLender.PLEDGE), 600);
        x.sell(0, 3);
        due("SALE", x.repaid(0, HarvestLender.SALE), 300);
        int debt = x.debt(0);
        x.close();
        due("GROUP", x.repaid(0, HarvestLender.GROUP), debt);
        x.sell(0, 4);
        due("SALE without a debt", x.repaid(0, HarvestLender.SALE), 300);
        x.plant(0, 0, 4);
        x.draw(0, 400);
        x.repay(0, 150);
        due("PURSE", x.repaid(0, HarvestLender.PURSE), 150);
        x.sell(0, 1);
        due("SALE", x.repaid(0, HarvestLender.SALE), 400);
        goTo(x, 4);
        debt = x.debt(0);
        x.close();
        due("PURSE at the close", x.repaid(0, HarvestLender.PURSE), 150 + debt);
        due("of another", x.repaid(1, HarvestLender.PURSE), 0);
    }

    private static void charged() {
        about = "promise 25 charged";
        HarvestLender x = with(1, 0);
        due("at first", x.charged(0), 0);
        x.plant(0, 0, 1);
        x.draw(0, 1000);
        due("drawn", x.charged(0), 1000);
        x.setYield(0, 20);
        x.next();
        due("interest", x.charged(0), 1020);
        goTo(x, 4);
        due("interest", x.charged(0), 1081);
        x.close();
        due("rolled", x.charged(0), 1081);
        goTo(x, 4);
        x.close();
        due("an instalment", x.debt(0), 360);
        due("isn't charged again", x.charged(0), 1081);
        x.next();
        due("its interest is", x.charged(0), 1088);
        x.pledge(0, 10);
        due("pledge debt isn't yet", x.charged(0), 1088);
        x.setCrop(0, 1, 1);
        x.sell(0, 10);
        due("what is left of it is", x.charged(0), 1678);
        x.repay(0, 1);
        due("repaying doesn't lower it", x.charged(0), 1678);
    }

    private static void constants() {
        about = "constants";
        due("NONE", HarvestLender.NONE, -1);
        due("PURSE", HarvestLender.PURSE, 0);
        due("COVER", HarvestLender.COVER, 1);
        due("PLEDGE", HarvestLender.PLEDGE, 2);
        due("SALE", HarvestLender.SALE, 3);
        due("GROUP", HarvestLender.GROUP, 4);
    }

    private static void noSuchFarmer() {
        about = "promise 6 to 9, 11 to 13, 17 to 25 no such farmer";
        HarvestLender x = with(2, 0);
        for (int bad : new int[] {-1, 2, 7, 8, BIG, SMALL}) {
            thrown("plant", INDEX, () -> x.plant(bad, 0, 1));
            thrown("cover", INDEX, () -> x.cover(bad, 1));
            thrown("draw", INDEX, () -> x.draw(bad, 1));
            thrown("setYield", INDEX, () -> x.setYield(bad, 1));
            thrown("pledge", INDEX, () -> x.pledge(bad, 1));
            thrown("sell", INDEX, () -> x.sell(bad, 1));
            thrown("repay", INDEX, () -> x.repay(bad, 1));
            thrown("limit", INDEX, () -> x.limit(bad));
            thrown("debt", INDEX, () -> x.debt(bad));
            thrown("owes", INDEX, () -> x.owes(bad));
            thrown("instalments", INDEX, () -> x.instalments(bad));
            thrown("purse", INDEX, () -> x.purse(bad));
            thrown("grain", INDEX, () -> x.grain(bad, false));
            thrown("grain", INDEX, () -> x.grain(bad, true));
            thrown("called", INDEX, () -> x.called(bad));
            thrown("repaid", INDEX, () -> x.repaid(bad, 0));
            thrown("charged", INDEX, () -> x.charged(bad));
        }
    }

    private static void failedCallsChangeNothing() {
        about = "terms: a call that throws changes nothing";
        HarvestLender x = with(1, 0);
        x.plant(0, 0, 1);
        x.draw(0, 900);
        thrown("draw", STATE, () -> x.draw(0, 101));
        due("debt", x.debt(0), 900);
        due("what can be drawn", x.draw(0, 50), 50);
        thrown("close", STATE, x::close);
        due("season", x.season(), 0);
        due("debt", x.debt(0), 950);
        goTo(x, 4);
        int debt = x.debt(0);
        thrown("next", STATE, x::next);
        due("no interest", x.debt(0), debt);
        due("no second harvest", x.grain(0, false), 50);
        thrown("sell", STATE, () -> x.sell(0, 51));
        thrown("pledge", STATE, () -> x.pledge(0, 51));
        due("grain", x.grain(0, false), 50);
        due("pledged", x.grain(0, true), 0);
        thrown("setYield", STATE, () -> x.setYield(0, 0));
        x.close();
        due("season", x.season(), 1);
    }

    private static void largest() {
        about = "largest sums";
        HarvestLender x = with(1, 0);
        for (int stage = 0; stage < 4; stage++) {
            x.setNeed(0, stage, 100000);
        }
        x.setCrop(0, 5000, 100);
        long debt = 0;
        for (int season = 0; season <= 20; season++) {
            x.plant(0, 0, 50);
            x.setYield(0, 200);
            for (int stage = 0; stage < 4; stage++) {
                due("still to draw", x.draw(0, 5000000), 0);
                debt += 5000000;
                debt += debt * 2 / 100;
                x.next();
            }
            due("limit", x.limit(0), 20000000);
            due("debt", x.debt(0), debt);
            due("charged", x.charged(0), debt);
            if (season < 20) {
                x.close();
            }
        }
        due("grain", x.grain(0, false), 210000);
        due("pledge", x.pledge(0, 210000), 630000000);
        due("debt", x.debt(0), debt - 630000000);
        due("owes", x.owes(0), debt);
        x.setCrop(0, 1, 0);
        due("sell", x.sell(0, 210000), 210000);
        due("debt", x.debt(0), debt - 210000);
        due("charged", x.charged(0), debt + 629790000);

        HarvestLender y = with(1, 0);
        y.setCrop(0, 5000, 100);
        for (int season = 0; season <= 20; season++) {
            y.plant(0, 0, 50);
            y.setYield(0, 200);
            goTo(y, 4);
            if (season < 20) {
                y.close();
            }
        }
        due("sell", y.sell(0, 210000), 1050000000);
        due("purse", y.purse(0), 1050000000);

        HarvestLender z = with(1, 0);
        z.setCrop(0, 5000, 100);
        z.plant(0, 0, 50);
        z.cover(0, 90);
        z.setYield(0, 0);
        goTo(z, 4);
        due("cover", z.purse(0), 22500000);
    }

    // ---- what the promises share

    /** Three farmers at the stage 4; the first one drew at the stage 0 and sold grain for a price. */
    private static HarvestLender sold(int drawn, int price) {
        HarvestLender x = with(3, 0);
        x.plant(0, 0, 1);
        if (drawn > 0) {
            x.draw(0, drawn);
        }
        goTo(x, 4);
        x.sell(0, price / 100);
        return x;
    }

    private static void zero(HarvestLender x, int farmer) {
        due("limit", x.limit(farmer), 0);
        due("debt", x.debt(farmer), 0);
        due("owes", x.owes(farmer), 0);
        due("instalments", x.instalments(farmer), 0);
        due("purse", x.purse(farmer), 0);
        due("grain", x.grain(farmer, false), 0);
        due("pledged", x.grain(farmer, true), 0);
        due("called", x.called(farmer), 0);
        due("charged", x.charged(farmer), 0);
    }
}
