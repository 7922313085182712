import java.util.ArrayList;
import java.util.List;

/** What holds at the first call of an object holds at its 512th one, whatever was called in between. */
public final class LastCallTest extends Seas {
    private static final int CALLS = 512;
    private static final String FIRST_SEA = "l4,1,2;l2,3,1;l3,6,1;t0,1,3,5;t6,2,4,2;g0,3,5;";

    private interface Call {
        long on(HungFromIce x);
    }

    /** An object that is asked at most 512 times. */
    private static final class Used {
        final HungFromIce sea = new HungFromIce();
        int calls = 0;

        long ask(Call call) {
            if (calls >= CALLS) throw new IllegalStateException("more than 512 calls");
            calls++;
            return call.on(sea);
        }

        void write(String text) {
            for (char c : text.toCharArray()) ask(x -> x.write(c));
        }
    }

    public static void main(String[] args) {
        eachCallAsTheLastOne();
        lastStep();
        lastUndone();
        lastLetters();
        lastKept();
        lastHeardAndDrifted();
        lastLaid();
        end("each call holds as the 512th one, too");
    }

    private static Call[] run(Call... calls) {
        return calls;
    }

    /** Runs of a few calls on a new object: each call of the face is asked by the last one of some. */
    private static List<Call[]> runs() {
        List<Call[]> all = new ArrayList<>();
        all.add(run(x -> x.write('n')));
        all.add(run(x -> x.write(127)));
        all.add(run(x -> x.write('n'), x -> x.wipe()));
        all.add(run(x -> x.fault()));
        all.add(run(x -> x.write('n'), x -> x.write('3'), x -> x.write(';'), x -> x.fault()));
        all.add(run(x -> x.lay()));
        all.add(run(x -> x.level(2, 1)));
        all.add(run(x -> x.level(3, 0)));
        all.add(run(x -> x.hang(1, 7), x -> x.town(1, 1)));
        all.add(run(x -> x.cut(1), x -> x.town(1, 4)));
        all.add(run(x -> x.thing(0, 1)));
        all.add(run(x -> x.steps(11), x -> x.thing(0, 3)));
        all.add(run(x -> x.thing(1, 0)));
        all.add(run(x -> x.steps(60)));
        all.add(run(x -> x.steps(61)));
        all.add(run(x -> x.letGo(0, 3), x -> x.letGo(1, 9)));
        all.add(run(x -> x.cut(0), x -> x.letGo(0, 3)));
        all.add(run(x -> x.hang(0, 3)));
        all.add(run(x -> x.hang(0, 0)));
        all.add(run(x -> x.hang(0, 12)));
        all.add(run(x -> x.cut(1)));
        all.add(run(x -> x.cut(1), x -> x.cut(1)));
        all.add(run(x -> x.undo()));
        all.add(run(x -> x.steps(3), x -> x.cut(0), x -> x.undo()));
        for (int what = 0; what < 3; what++) {
            int w = what;
            all.add(run(x -> x.behind(2, 0, w)));
            all.add(run(x -> x.behind(60, 0, w)));
            all.add(run(x -> x.moved(6, w)));
        }
        all.add(run(x -> x.letGo(0, 3), x -> x.meet(0, 1)));
        all.add(run(x -> x.meet(0, 0)));
        all.add(run(x -> x.round(0)));
        all.add(run(x -> x.time(0, 0, 2, 7)));
        all.add(run(x -> x.time(0, 0, 3, 0)));
        all.add(run(x -> x.hears(0, 7)));
        all.add(run(x -> x.shadow(0)));
        all.add(run(x -> x.heard(0, 10)));
        all.add(run(x -> x.cut(0), x -> x.heard(0, 10)));
        all.add(run(x -> x.heard(0, 10), x -> x.heard(1, 9), x -> x.hush()));
        all.add(run(x -> x.whence(0)));
        all.add(run(x -> x.heard(0, 10), x -> x.heard(1, 9), x -> x.whence(0)));
        all.add(run(x -> x.heard(0, 10), x -> x.heard(1, 9), x -> x.whence(1)));
        all.add(run(x -> x.moved(0, 0)));
        all.add(run(x -> x.sent(0, 1, 0)));
        all.add(run(x -> x.sent(0, 1, 1)));
        all.add(run(x -> x.fall(0, 0)));
        all.add(run(x -> x.clear(1, 1)));
        all.add(run(x -> x.clear(2, 1)));
        all.add(run(x -> x.gain(2)));
        all.add(run(x -> x.drifted(0, 1, 4, 3)));
        all.add(run(x -> x.drifted(0, 1, 4, 3), x -> x.forget()));
        all.add(run(x -> x.currents(0)));
        all.add(run(x -> x.drifted(0, 1, 4, 3), x -> x.currents(0)));
        all.add(run(x -> x.leak(2, 5, 2, 5, 0)));
        all.add(run(x -> x.leak(2, 5, 2, 5, 1)));
        all.add(run(x -> x.year(5, 60, -1)));
        all.add(run(x -> x.year(5, 60, 1)));
        all.add(run(x -> x.keep(), x -> x.keep()));
        all.add(run(x -> x.keep(), x -> x.keep(), x -> x.keep()));
        all.add(run(x -> x.back()));
        all.add(run(x -> x.keep(), x -> x.steps(5), x -> x.back()));
        for (int what = 0; what <= 10; what++) {
            int w = what;
            all.add(run(x -> x.count(w)));
            all.add(run(x -> x.steps(3), x -> x.cut(0), x -> x.keep(), x -> x.heard(1, 2), x -> x.drifted(0, 1, 4, 3), x -> x.count(w)));
        }
        return all;
    }

    private static void eachCallAsTheLastOne() {
        of("what holds at the first call holds at the 512th");
        List<Call[]> all = runs();
        for (int i = 0; i < all.size(); i++) {
            Call[] run = all.get(i);
            Used first = new Used(), undone = new Used(), laid = new Used();
            fillByUndoing(undone, CALLS - run.length);
            fillByLaying(laid, CALLS - run.length);
            for (Call call : run) {
                long want = first.ask(call);
                due("run " + i + ", behind much that is undone, call " + (undone.calls + 1), undone.ask(call), want);
                due("run " + i + ", behind a sea laid anew, call " + (laid.calls + 1), laid.ask(call), want);
            }
            due("calls", undone.calls + laid.calls, 2 * CALLS);
        }
    }

    /** Calls that leave all as on a new object, two by two. */
    private static void fillByUndoing(Used x, int calls) {
        while (x.calls + 2 <= calls) askTwo(x, x.calls / 2);
        if (x.calls < calls) x.ask(y -> y.round(0));
    }

    private static void askTwo(Used x, int turn) {
        int place = 1 + turn % 11, weight = turn % 10;
        switch (turn % 10) {
            case 0: x.ask(y -> y.letGo(turn % 2, weight)); x.ask(y -> y.undo()); break;
            case 1: x.ask(y -> y.hang(0, place)); x.ask(y -> y.undo()); break;
            case 2: x.ask(y -> y.cut(turn / 10 % 2)); x.ask(y -> y.undo()); break;
            case 3: x.ask(y -> y.steps(1 + turn % 60)); x.ask(y -> y.undo()); break;
            case 4: x.ask(y -> y.keep()); x.ask(y -> y.back()); break;
            case 5: x.ask(y -> y.heard(turn / 10 % 2, turn % 100)); x.ask(y -> y.hush()); break;
            case 6: x.ask(y -> y.drifted(turn % 3, place, weight, 1)); x.ask(y -> y.forget()); break;
            case 7: x.ask(y -> y.write(32 + turn % 95)); x.ask(y -> y.wipe()); break;
            case 8: x.ask(y -> y.moved(weight, 0)); x.ask(y -> y.year(turn, 9, -1)); break;
            default: x.ask(y -> y.time(0, place, 2, weight)); x.ask(y -> y.sent(0, 1, 1));
        }
    }

    /** Much is done, in another sea, too; then the first sea is laid anew. */
    private static void fillByLaying(Used x, int calls) {
        String other = "n5;l0,0,9;t4,0,1,2;t0,0,1,2;m0,2;g0,0,0;";
        x.write(other);
        x.ask(y -> y.lay());
        Call[] toForget = run(y -> y.lay(), y -> y.cut(0), y -> y.keep(), y -> y.heard(1, 1), y -> y.drifted(0, 0, 1, 1));
        int lastCalls = toForget.length + FIRST_SEA.length() + 3;
        for (int turn = 0; x.calls + lastCalls < calls; turn++) x.ask(any(turn));
        for (Call call : toForget) x.ask(call);
        x.ask(y -> y.wipe());
        x.write(FIRST_SEA);
        x.ask(y -> y.lay());
        x.ask(y -> y.wipe());
    }

    private static Call any(int turn) {
        switch (turn % 13) {
            case 0: return x -> x.steps(7);
            case 1: return x -> x.hang(0, turn / 13 % 5);
            case 2: return x -> x.letGo(0, turn % 10);
            case 3: return x -> x.heard(0, turn % 100);
            case 4: return x -> x.drifted(0, turn % 5, 1, 1);
            case 5: return x -> x.keep();
            case 6: return x -> x.time(0, 0, 0, turn / 13 % 5);
            case 7: return x -> x.cut(0);
            case 8: return x -> x.year(turn, 5, -1);
            case 9: return x -> x.whence(0);
            case 10: return x -> x.undo();
            case 11: return x -> turn % 2 == 0 ? x.lay() : x.back();
            default: return x -> x.moved(0, 0);
        }
    }

    private static void lastStep() {
        of("steps: as far as 9999, by the 512th call");
        for (int last = 1; last <= 2; last++) {
            int n = last;
            Used x = new Used();
            for (int i = 1; i <= 166; i++) due("60 each", x.ask(y -> y.steps(60)), 60 * i);
            due("9998", x.ask(y -> y.steps(38)), 9998);
            while (x.calls < CALLS - 1) due("CAUGHT for good", x.ask(y -> y.thing(0, 3)), 0);
            due("call 512: " + n + " more", x.ask(y -> y.steps(n)), n == 1 ? 9999 : NO);
        }
    }

    private static void lastUndone() {
        of("UNDONE: the last 8, by the 512th call");
        for (int more = 0; more <= 1; more++) {
            Used x = new Used();
            while (x.calls < CALLS - 8 - more) {
                int to = (x.calls + 1) % 12;
                due("hung", x.ask(y -> y.hang(0, to)), (to + 11) % 12);
            }
            for (int left = 7; left >= 0; left--) due("undo, call " + (x.calls + 1), x.ask(y -> y.undo()), left);
            if (more == 1) due("call 512", x.ask(y -> y.undo()), NO);
            due("calls", x.calls, CALLS);
        }
        for (int more = 0; more < 8; more++) {
            Used x = new Used();
            while (x.calls < CALLS - 16 - more) {
                int to = (x.calls + 1) % 12;
                x.ask(y -> y.hang(0, to));
            }
            for (int i = 1; i <= 8; i++) {
                x.ask(y -> y.undo());
                due("hung as before, call " + (x.calls + 1), x.ask(y -> y.town(0, 1)), (CALLS - 16 - more - i) % 12);
            }
        }
    }

    private static void lastLetters() {
        of("THE TEXT: 200 letters, by the 512th call");
        Used x = new Used();
        for (int i = 1; i <= 200; i++) due("letter " + i, x.ask(y -> y.write('n')), i);
        while (x.calls < CALLS - 1) due("call " + (x.calls + 1), x.ask(y -> y.write('n')), FULL);
        due("call 512", x.ask(y -> y.wipe()), 200);
        Used z = new Used();
        for (int i = 0; i < 255; i++) {
            due("written", z.ask(y -> y.write('n')), 1);
            due("wiped", z.ask(y -> y.wipe()), 1);
        }
        due("call 511", z.ask(y -> y.write(126)), 1);
        due("call 512", z.ask(y -> y.fault()), 0);
    }

    private static void lastKept() {
        of("KEPT: 2 at most, by the 512th call");
        Used x = new Used();
        for (int i = 0; i < 128; i++) {
            due("kept", x.ask(y -> y.keep()), 1);
            due("kept", x.ask(y -> y.keep()), 2);
            due("back", x.ask(y -> y.back()), 1);
            due("back, call " + (x.calls + 1), x.ask(y -> y.back()), 0);
        }
        Used z = new Used();
        z.ask(y -> y.keep());
        z.ask(y -> y.keep());
        while (z.calls < CALLS) due("call " + (z.calls + 1), z.ask(y -> y.keep()), FULL);
    }

    private static void lastHeardAndDrifted() {
        of("HEARD, DRIFTED: 6 at most, by the 512th call");
        Used x = new Used(), z = new Used();
        for (int i = 0; i < 64; i++) {
            for (int k = 1; k <= 6; k++) {
                due("heard", x.ask(y -> y.heard(1, 9)), k);
                due("drifted", z.ask(y -> y.drifted(1, 2, 1, 1)), k);
            }
            due("a 7th", x.ask(y -> y.heard(1, 9)), FULL);
            due("a 7th", z.ask(y -> y.drifted(1, 2, 1, 1)), FULL);
            due("hush, call " + (x.calls + 1), x.ask(y -> y.hush()), 6);
            due("forget, call " + (z.calls + 1), z.ask(y -> y.forget()), 6);
        }
        due("calls", x.calls + z.calls, 2 * CALLS);
    }

    private static void lastLaid() {
        of("SOUND by the MARKETS of the sea that is laid last, up to the 512th call");
        Used x = new Used();
        while (x.calls + 24 <= CALLS) {
            x.write("l3,0,1;");
            due("laid", x.ask(y -> y.lay()), 1);
            due("no MARKETS", x.ask(y -> y.time(0, 0, 0, 5)), 5);
            x.write("m0,3;");
            due("laid", x.ask(y -> y.lay()), 1);
            due("the other way round", x.ask(y -> y.time(0, 0, 0, 5)), 7);
            x.write("m0,9;");
            due("laid", x.ask(y -> y.lay()), 1);
            due("shut out", x.ask(y -> y.time(0, 0, 0, 5)), NONE);
            due("wiped", x.ask(y -> y.wipe()), 17);
        }
        while (x.calls < CALLS) due("call " + (x.calls + 1), x.ask(y -> y.whence(0)), 10);
    }
}
