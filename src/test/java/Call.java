/** A call of the face. */
interface Call {
    long on(PermanentDesk desk);
}
