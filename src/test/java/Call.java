import java.util.List;
import java.util.function.ObjIntConsumer;

/** A call of the face with one argument left open, so that a rule for all methods is tested on all. */
record Call(String name, ObjIntConsumer<CommitDesk> body) {
    /** The calls that need an open transaction; what is left open is its number. */
    static final List<Call> OF_AN_OPEN_TRANSACTION = List.of(
            new Call("read", (desk, t) -> desk.read(t, 0)),
            new Call("write", (desk, t) -> desk.write(t, 0, 1)),
            new Call("save", CommitDesk::save),
            new Call("back", CommitDesk::back),
            new Call("keep", CommitDesk::keep),
            new Call("done", CommitDesk::done),
            new Call("leave", CommitDesk::leave),
            new Call("count 0", (desk, t) -> desk.count(t, 0)),
            new Call("count 1", (desk, t) -> desk.count(t, 1)),
            new Call("count 2", (desk, t) -> desk.count(t, 2)),
            new Call("count 3", (desk, t) -> desk.count(t, 3)));

    static final Call BEGIN = new Call("begin", CommitDesk::begin);

    /** The calls that name a cell alone; what is left open is its number. */
    static final List<Call> OF_A_CELL = List.of(
            new Call("set", (desk, k) -> desk.set(k, 1)),
            new Call("cell", CommitDesk::cell),
            new Call("changed", CommitDesk::changed));

    /** The calls that name a cell and this transaction. */
    static List<Call> ofACell(int t) {
        return List.of(
                new Call("read " + t, (desk, k) -> desk.read(t, k)),
                new Call("write " + t, (desk, k) -> desk.write(t, k, 1)));
    }

    String with(int number) {
        return name + " with " + number;
    }
}
