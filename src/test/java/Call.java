import java.util.function.ToLongFunction;

/** One call of the face, with how it is printed. */
record Call(String text, ToLongFunction<OrreryDials> does) {
    long on(OrreryDials x) {
        return does.applyAsLong(x);
    }
}
