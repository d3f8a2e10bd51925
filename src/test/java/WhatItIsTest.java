import java.util.function.ToIntFunction;

/** "An object is used for at most 512 calls after it has been made": the 512th is as good as the first. */
public final class WhatItIsTest {
    private static final int CALLS = 512;

    public static void main(String[] args) {
        Checks checks = new Checks();
        lastCallOfEachMethod(checks);
        seenInEnteringAddsUp(checks);
        seenInSearchesAddsUp(checks);
        alwaysTheFirstNodeAgain(checks);
        removedAndPutAnewWhileFull(checks);
        checks.end();
    }

    private static void lastCallOfEachMethod(Checks checks) {
        last(checks, "put", d -> d.put(30, 0, 0, 0, 0), 3);
        last(checks, "put REFUSED", d -> d.put(30, 0, 0, 100, 0), NearDesk.REFUSED);
        last(checks, "remove", d -> d.remove(1) ? 1 : 0, 1);
        last(checks, "renew", d -> d.renew(), 0);
        last(checks, "ask", d -> d.ask(1, 1, 1, 1) ? 1 : 0, 1);
        last(checks, "near", d -> d.near(2, 2), 2);
        last(checks, "exact", d -> d.exact(3), 3);
        last(checks, "match", d -> d.match(10, 1), 2);
        last(checks, "fuse", d -> d.fuse(10, 1), 3);
        last(checks, "found, the number", d -> d.found(1, 0), 0);
        last(checks, "found, the VALUE", d -> d.found(1, 1), 100);
        last(checks, "found NONE", d -> d.found(2, 0), NearDesk.NONE);
        last(checks, "node", d -> d.node(2, 0), 1);
        last(checks, "neighbour", d -> d.neighbour(2, 0, 0), 1);
        last(checks, "count", d -> d.count(0), 3);
    }

    /** 3 calls make the desk, 507 look at it or leave it as it was, exact is the 511th. */
    private static void last(Checks checks, String name, ToIntFunction<NearDesk> call, int due) {
        NearDesk desk = new NearDesk();
        desk.put(0, 0, 0, 0, 1);
        desk.put(10, 0, 0, 0, 0);
        desk.put(20, 0, 0, 0, 2);
        for (int i = 0; i < CALLS - 5; i++) {
            callThatKeeps(desk, i % 11);
        }
        desk.exact(2);
        checks.same(name + " as the 512th call", call.applyAsInt(desk), due);
    }

    private static void callThatKeeps(NearDesk desk, int which) {
        switch (which) {
            case 0 -> desk.ask(10, 0, 0, 0);
            case 1 -> desk.near(10, 10);
            case 2 -> desk.fuse(10, 255);
            case 3 -> desk.match(10, 255);
            case 4 -> desk.renew();
            case 5 -> desk.count(7);
            case 6 -> desk.found(0, 0);
            case 7 -> desk.node(0, 10);
            case 8 -> desk.neighbour(0, 0, 0);
            case 9 -> desk.remove(3);
            default -> desk.put(0, 0, 0, 0, -1);
        }
    }

    private static void seenInEnteringAddsUp(Checks checks) {
        int once = Desks.full().count(5);
        NearDesk desk = Desks.full();
        for (int i = 0; i < CALLS - 31; i++) {
            desk.renew();
        }
        checks.same("count(5) as the 512th call", desk.count(5), once * (CALLS - 30));
    }

    private static void seenInSearchesAddsUp(Checks checks) {
        NearDesk other = Desks.full();
        other.fuse(10, 255);
        NearDesk desk = Desks.full();
        for (int i = 0; i < CALLS - 31; i++) {
            desk.fuse(10, 255);
        }
        checks.same("count(4) as the 512th call", desk.count(4), other.count(4) * (CALLS - 31));
    }

    private static void alwaysTheFirstNodeAgain(Checks checks) {
        NearDesk desk = new NearDesk();
        for (int i = 0; i < 127; i++) {
            checks.same("put, the only one", desk.put(i % 100, 0, 0, 0, 0), 0);
            checks.same("remove(0)", desk.remove(0), true);
            checks.same("renew()", desk.renew(), 1);
            checks.same("count(3) of none", desk.count(3), NearDesk.NONE);
        }
        checks.same("put, the 509th call", desk.put(5, 0, 0, 0, 0), 0);
        checks.same("node(0, 0)", desk.node(0, 0), 0);
        checks.same("node(0, 1)", desk.node(0, 1), 1);
        checks.same("count(5), the 512th call", desk.count(5), 0);
    }

    private static void removedAndPutAnewWhileFull(Checks checks) {
        NearDesk desk = Desks.full();
        for (int i = 0; i < 160; i++) {
            int n = i * 7 % 30;
            checks.same("remove", desk.remove(n), true);
            checks.same("renew", desk.renew(), 1);
            checks.same("put", desk.put(i % 100, 0, 0, 0, 0), n);
        }
        checks.same("put, the 511th call", desk.put(0, 0, 0, 0, 0), NearDesk.FULL);
        checks.same("count(1), the 512th call", desk.count(1), 30);
    }
}
