/** A call of a method of CounterBraid with its arguments. */
interface Call {
    long on(CounterBraid x);
}
