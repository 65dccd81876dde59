import java.util.function.ToIntFunction;

/** A call with the number of its promise and what it must answer. */
record Call(String name, int want, ToIntFunction<ConfinementAnalyzer> made) {
    int make(ConfinementAnalyzer c) {
        return made.applyAsInt(c);
    }
}
