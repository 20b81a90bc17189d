import java.util.ArrayList;
import java.util.List;
import java.util.function.Supplier;

/** Every call that is refused, and every call that only asks: nothing is changed by it. */
final class RefusalEdges {
    private static final int NONE = Edge.NONE;
    private static final int LEAST = Integer.MIN_VALUE;
    private static final int MOST = Integer.MAX_VALUE;

    private interface Call {
        int of(OneThread x);
    }

    private RefusalEdges() {
    }

    static void all() {
        refusedBoards();
        refusedWindings();
        refusedSets();
        refusedWhenNew();
        refusedWhenFull();
        refusedLaw();
        asking();
    }

    private static int bit(boolean answer) {
        return answer ? 1 : 0;
    }

    /** Pins, windings, a law, a fault, a tape, pictures, a set, shades told, an image unlike all that. */
    private static OneThread some() {
        OneThread x = Edge.pins(2, 0, 2, 22, 20, 1);
        Edge.law(x, "bar when to=3;");
        x.shade(1, 5);
        x.want(0, 1, 0, 40);
        x.line(0, 2);
        Edge.wind(x, 0, 0, 2);
        x.image(true);
        x.shade(2, 4);
        Edge.law(x, "may when to=1;bar when to=2;");
        Edge.law(x, "may when 1");
        for (int p = 0; p < 4; p++) x.want(p, p % 2, p / 2, 20 + p);
        x.weight(0, 0, 2);
        x.weight(1, 1, 3);
        x.line(1, 2);
        x.line(2, 4);
        x.tell(0, 0, 8);
        Edge.wind(x, 1, 0, 1, 3);
        Edge.wind(x, 2, 4);
        x.winding(0, 1);
        Edge.put(x, "bar when to=0;");
        return x;
    }

    /** As many pins, lines, pins wound and bytes as can be, and more lines than can be told back. */
    private static OneThread full() {
        OneThread x = Edge.grid(4, 24);
        x.image(true);
        for (int i = 0; i < 120; i++) x.winding(0, i % 2);
        for (int i = 1; i < 21; i++) x.line(0, i);
        for (int i = 0; i < 20; i++) x.feed(0x20202020, 0x20202020, 0x20202020, 0x20202020, 0x20202020);
        return x;
    }

    private static void unchanged(String name, Supplier<OneThread> state, Call call, int due) {
        OneThread x = state.get();
        Edge.due(name, call.of(x), due);
        List<String> then = Sight.of(x);
        List<String> otherwise = Sight.of(state.get());
        Edge.due(name + " changed something: " + firstUnlike(then, otherwise), then.equals(otherwise) ? 0 : 1, 0);
    }

    private static String firstUnlike(List<String> a, List<String> b) {
        for (int i = 0; i < Math.min(a.size(), b.size()); i++) {
            if (!a.get(i).equals(b.get(i))) return a.get(i) + ", without it " + b.get(i);
        }
        return a.size() + " seen, without it " + b.size();
    }

    /** Refused with each of these numbers. */
    private interface CallWith {
        int of(OneThread x, int v);
    }

    private static void each(String name, CallWith call, int due, List<Integer> numbers) {
        for (int v : numbers) unchanged(name + " " + v, RefusalEdges::some, x -> call.of(x, v), due);
    }

    private static void refusedBoards() {
        Edge.says("S is told: true; false, and nothing is done, if it can't be.");
        each("board", (x, v) -> bit(x.board(v)), 0, Edge.outside(2, 8));
        Edge.says("A PIN: its number; NONE if one can't be (a POINT that has one), or there are 24.");
        each("pin x", (x, v) -> x.pin(v, 1), NONE, Edge.outside(0, 2));
        each("pin y", (x, v) -> x.pin(1, v), NONE, Edge.outside(0, 2));
        unchanged("pin where one is", RefusalEdges::some, x -> x.pin(2, 2), NONE);
        Edge.says("WANT of a SQUARE in a PICTURE: true; false if one can't be.");
        each("want picture", (x, v) -> bit(x.want(v, 0, 0, 7)), 0, Edge.outside(0, 3));
        each("want x", (x, v) -> bit(x.want(0, v, 0, 7)), 0, Edge.outside(0, 1));
        each("want y", (x, v) -> bit(x.want(0, 0, v, 7)), 0, Edge.outside(0, 1));
        each("want", (x, v) -> bit(x.want(0, 0, 0, v)), 0, Edge.outside(0, 999));
        Edge.says("WEIGHT of a SQUARE: true; false if one can't be.");
        each("weight x", (x, v) -> bit(x.weight(v, 0, 7)), 0, Edge.outside(0, 1));
        each("weight y", (x, v) -> bit(x.weight(0, v, 7)), 0, Edge.outside(0, 1));
        each("weight", (x, v) -> bit(x.weight(0, 0, v)), 0, Edge.outside(0, 9));
        Edge.says("SHADE of a THREAD: true; false if one can't be.");
        each("shade thread", (x, v) -> bit(x.shade(v, 7)), 0, Edge.outside(0, 2));
        each("shade", (x, v) -> bit(x.shade(0, v)), 0, Edge.outside(0, 9));
        Edge.says("SHADE told for a SQUARE (NONE: none): true; false if one can't be.");
        each("tell x", (x, v) -> bit(x.tell(v, 0, 7)), 0, Edge.outside(0, 1));
        each("tell y", (x, v) -> bit(x.tell(0, v, 7)), 0, Edge.outside(0, 1));
        each("tell", (x, v) -> bit(x.tell(0, 0, v)), 0, Edge.outside(-1, 9999));
    }

    private static void refusedWindings() {
        Edge.says("A THREAD goes on to a PIN: how many PINS its WINDING has then; NONE, and nothing is done, if one can't be (where "
            + "it is; 120), -2 if THE LAW bars it.");
        each("winding of thread", (x, v) -> x.winding(v, 0), NONE, Edge.outside(0, 2));
        each("winding to pin", (x, v) -> x.winding(0, v), NONE, Edge.outside(0, 4));
        unchanged("winding where it is", RefusalEdges::some, x -> x.winding(0, 1), NONE);
        unchanged("winding barred", RefusalEdges::some, x -> x.winding(0, 2), -2);
        Edge.says("The last n PINS of a WINDING go (0 .. as many as there are): how many are left; NONE if one can't be.");
        each("rub of thread", (x, v) -> x.rub(v, 0), NONE, Edge.outside(0, 2));
        each("rub", (x, v) -> x.rub(1, v), NONE, Edge.outside(0, 3));
        Edge.says("The TAPE has its first n bytes alone: true; false, changing nothing, if it has not so many, or n is below 0.");
        each("end", (x, v) -> bit(x.end(v)), 0, Edge.outside(0, 14));
    }

    private static void refusedSets() {
        Edge.says("A LINE comes to THE SET: its number; NONE if one can't be (alike; one that is in it), or there are twenty.");
        each("line from", (x, v) -> x.line(v, 0), NONE, Edge.outside(0, 4));
        each("line to", (x, v) -> x.line(0, v), NONE, Edge.outside(0, 4));
        unchanged("line that is in it", RefusalEdges::some, x -> x.line(0, 2), NONE);
        unchanged("line that is in it the other way", RefusalEdges::some, x -> x.line(4, 2), NONE);
        unchanged("line of alike pins", RefusalEdges::some, x -> x.line(3, 3), NONE);
    }

    private static void refusedWhenNew() {
        Edge.says("A board of four by four, no pins.");
        unchanged("winding", OneThread::new, x -> x.winding(0, 0), NONE);
        unchanged("rub", OneThread::new, x -> x.rub(0, 1), NONE);
        unchanged("end", OneThread::new, x -> bit(x.end(1)), 0);
        unchanged("line", OneThread::new, x -> x.line(0, 1), NONE);
        unchanged("clear", OneThread::new, x -> x.clear(), 0);
        unchanged("undo", OneThread::new, x -> bit(x.undo()), 0);
        unchanged("image", OneThread::new, x -> bit(x.image(false)), 0);
        unchanged("text", OneThread::new, x -> x.text(), 0);
        unchanged("board", OneThread::new, x -> bit(x.board(4)), 1);
        unchanged("greedy", OneThread::new, x -> x.greedy(0, 0, 40, 0), 0);
        unchanged("samples", OneThread::new, x -> x.samples(0, 1, 0, 0), NONE);
    }

    private static void refusedWhenFull() {
        Edge.says("PINS 0 .. 23 as they come: a POINT (of its own).");
        unchanged("the 25th", RefusalEdges::full, x -> x.pin(4, 4), NONE);
        Edge.says("a WINDING: a row of PINS, at most 120, each another one than that ahead of it (empty at first).");
        unchanged("the 121st", RefusalEdges::full, x -> x.winding(0, 2), NONE);
        unchanged("greedy at 120", RefusalEdges::full, x -> x.greedy(0, 0, 40, 0), 0);
        unchanged("rub of 121", RefusalEdges::full, x -> x.rub(0, 121), NONE);
        Edge.says("A SET of LINES (20 at most) as they come, unlike ones:");
        unchanged("the 21st", RefusalEdges::full, x -> x.line(2, 1), NONE);
        unchanged("told back of 20", RefusalEdges::full, x -> x.back(0), -2);
        Edge.says("NONE, and nothing comes, if there would be more than 400.");
        unchanged("at 400", RefusalEdges::full, x -> x.feed(1, 2, 3, 4, 5), NONE);
        for (int n : new int[] {399, 381}) {
            Supplier<OneThread> cut = () -> {
                OneThread x = full();
                x.end(n);
                return x;
            };
            unchanged("at " + n, cut, x -> x.feed(1, 2, 3, 4, 5), NONE);
        }
        unchanged("end of 401", RefusalEdges::full, x -> bit(x.end(401)), 0);
        unchanged("end of 400", RefusalEdges::full, x -> bit(x.end(400)), 1);
    }

    /** A text with a fault changes the tape and fault() alone; here the same fault as ahead of it. */
    private static void refusedLaw() {
        Edge.says("NONE: a FAULT (it stays as it was).");
        Supplier<OneThread> emptied = () -> {
            OneThread x = some();
            x.end(0);
            return x;
        };
        unchanged("a fault like that ahead of it", emptied, x -> Edge.law(x, "bar when 2"), NONE);
        unchanged("a fault in the second line", emptied, x -> {
            int lines = Edge.law(x, "bar;bar when 2");
            Edge.due("the same fault", Edge.law(x, "may when 1"), NONE);
            return lines;
        }, NONE);
    }

    /** What only asks changes nothing, with right numbers and with wrong ones. */
    private static void asking() {
        Edge.says("in thought it goes on to NEXT as long as GAIN is above 0,");
        List<Integer> odd = new ArrayList<>(List.of(LEAST, -2, -1, 0, 1, 2, 3, 4, 5, 24, 40, 41, 100, MOST));
        for (int v : odd) {
            same("fault", x -> x.fault(v));
            same("wound", x -> x.wound(v, 0));
            same("wound", x -> x.wound(0, v));
            same("dark", x -> x.dark(v, 0));
            same("dark", x -> x.dark(0, v));
            same("samples", x -> x.samples(v, 1, 0, 0));
            same("samples", x -> x.samples(1, v, v, 0));
            same("samples", x -> x.samples(1, 0, 0, v));
            same("far", x -> x.far(v));
            same("next", x -> x.next(v, 0, 0));
            same("next", x -> x.next(0, v, 0));
            same("next", x -> x.next(0, 0, v));
            same("greedy", x -> x.greedy(v, 0, 40, 0));
            same("greedy", x -> x.greedy(1, v, 40, 0));
            same("greedy", x -> x.greedy(2, 0, v, 0));
            same("greedy", x -> x.greedy(0, 0, 40, v));
            same("worst", x -> x.worst(v, 0));
            same("worst", x -> x.worst(0, v));
            same("thread", x -> x.thread(v));
            same("order", x -> x.order(v));
            same("back", x -> x.back(v));
            same("rule", x -> x.rule(v, 0, 1));
            same("rule", x -> x.rule(0, v, v));
            same("drawn", x -> x.drawn(v, v, 0, 0));
            same("drawn", x -> x.drawn(1, 1, v, 0));
            same("drawn", x -> x.drawn(1, 1, 0, v));
            same("look", x -> x.look(v));
        }
        same("like", x -> x.like());
    }

    /** Asked twice the answer is the same, and nothing is changed. */
    private static void same(String name, Call call) {
        OneThread x = some();
        unchanged(name, RefusalEdges::some, y -> {
            call.of(y);
            return call.of(y);
        }, call.of(x));
    }
}
