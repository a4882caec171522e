/** The example of README.md answers what the comments there say. */
public final class ReadmeTest {
    public static void main(String[] args) {
        CountedText x = new CountedText();
        Check.same("insert", x.insert(0, 0, 'a'), 1);
        Check.same("its EDIT", Check.messages(x), "<0 0 0 0 1>");
        Check.same("deliver the EDIT", x.deliver(0), 0);
        Check.same("the NEWS", Check.messages(x), "<2 0 0 0 1><2 1 0 0 1><2 2 0 0 1>");
        while (x.waiting() > 0) {
            Check.same("deliver NEWS", x.deliver(0), 2);
        }
        Check.texts("delivered", x, "a");
        Check.same("undo", x.undo(0), 1);
        Check.same("length at the client itself", x.length(0), 0);
        Check.same("length at another", x.length(2), 1);
        Check.drain(x);
        Check.texts("undone", x, "");
        Check.finish();
    }
}
