/** Promise 1. */
public final class NewObjectTest {
    public static void main(String[] args) {
        Due due = new Due();
        ObjectRows x = new ObjectRows();
        due.is("kind(0)", x.kind(0), Kinds.NULL);
        due.is("kind(1)", x.kind(1), -1);
        due.is("used()", x.used(), 8);
        for (int what = 0; what <= 4; what++) {
            due.is("told(0, " + what + ")", x.told(0, what), 0);
        }
        due.is("first make", x.make(Kinds.MARK, 0), 1);

        ObjectRows other = new ObjectRows();
        due.is("kind(1) of another", other.kind(1), -1);
        due.is("attribute of another", other.attribute(0, Kinds.EXECUTABLE, 1), 1);
        due.is("told of the first", x.told(0, Kinds.EXECUTABLE), 0);
        due.end();
    }
}
