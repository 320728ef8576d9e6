/** The examples of README.md, call by call. */
public final class ReadmeTest {
    private ReadmeTest() {
    }

    public static void main(String[] args) {
        SparePager pager = new SparePager();
        machine(pager);
        refusedText(pager);
        Due.end();
    }

    private static void machine(SparePager pager) {
        Due.is("append", pager.append(0x6672616d, 0x65732034, 0x20322033, 0x20313020, 0x343b7275), 20);
        Due.is("append", pager.append(0x6e206120, 0x3520333b, 0x696e2061, 0x20302031, 0x20202020), 40);
        Due.is("load(36)", pager.load(36), 1);
        Due.is("touch(0, 2, true)", pager.touch(0, 2, true), 2);
        pager.tick(2);
        Due.is("ask(2)", pager.ask(2), 2);
        pager.undo();
        Due.isText("writeProgram(0)", Due.read(pager, pager.writeProgram(0)), "a iid");
    }

    private static void refusedText(SparePager pager) {
        pager.append(0x6672616d, 0x65732031, 0x20302030, 0x20302030, 0x20202020);
        Due.refuses("load(20)", Due.ARGUMENT, () -> pager.load(20));
        Due.is("parseError()", pager.parseError(), 2);
        Due.is("errorPosition()", pager.errorPosition(), 7);
        Due.isText("the machine stays", Due.read(pager, pager.writeProgram(0)), "a iid");
    }
}
