import java.util.function.ToIntFunction;

/** One call of the face with its arguments, to be made on any object; true counts 1, and false 0. */
final class Call {
    final String name;
    private final ToIntFunction<DeltaWindows> making;

    private Call(String name, ToIntFunction<DeltaWindows> making) {
        this.name = name;
        this.making = making;
    }

    int on(DeltaWindows x) {
        return making.applyAsInt(x);
    }

    static Call put(int row, int b, int n) {
        return new Call("put(" + row + ", " + b + ", " + n + ")", x -> x.put(row, b, n) ? 1 : 0);
    }

    static Call cut(int row, int n) {
        return new Call("cut(" + row + ", " + n + ")", x -> x.cut(row, n) ? 1 : 0);
    }

    static Call set(int row, int i, int b) {
        return new Call("set(" + row + ", " + i + ", " + b + ")", x -> x.set(row, i, b) ? 1 : 0);
    }

    static Call encode(int w) {
        return new Call("encode(" + w + ")", x -> x.encode(w));
    }

    static Call decode(int bound) {
        return new Call("decode(" + bound + ")", x -> x.decode(bound));
    }

    static Call length(int row) {
        return new Call("length(" + row + ")", x -> x.length(row));
    }

    static Call byteAt(int row, int i) {
        return new Call("byteAt(" + row + ", " + i + ")", x -> x.byteAt(row, i));
    }

    static Call code(int k, int part) {
        return new Call("code(" + k + ", " + part + ")", x -> x.code(k, part));
    }

    static Call cache(int side, int i) {
        return new Call("cache(" + side + ", " + i + ")", x -> x.cache(side, i));
    }

    static Call windows() {
        return new Call("windows()", DeltaWindows::windows);
    }

    static Call agrees() {
        return new Call("agrees()", x -> x.agrees() ? 1 : 0);
    }
}
