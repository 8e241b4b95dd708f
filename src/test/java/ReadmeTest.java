/** The example in README.md answers what README.md says. */
public final class ReadmeTest {
    private static final Due due = new Due();

    public static void main(String[] args) {
        due.promise("README.md");
        Packstack x = new Packstack();
        int first = x.store(5, 0x123456L);
        int second = x.store(5, 0x12345L);
        due.is("first", first, 0);
        due.is("second", second, 1);
        due.is("pack(8, 6, false)", x.pack(8, 6, false), 9);
        due.is("costOf(first)", x.costOf(first), 6);
        due.is("costOf(second)", x.costOf(second), 3);
        due.is("base(second)", x.base(second), 0);
        due.is("prune()", x.prune(), 2);
        due.is("read(second)", x.read(second), 0x12345L);
        due.is("find(hash(0x123456))", x.find(x.hash(0x123456L)), first);
        due.is("damage(first)", x.damage(first), 2);
        due.is("canRead(second)", x.canRead(second), false);
        due.badState("read(second)", () -> x.read(second));
        due.close("ReadmeTest");
    }
}
