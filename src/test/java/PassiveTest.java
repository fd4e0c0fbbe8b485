/** Promises 15 to 18: the passive form and the form by copying. */
public final class PassiveTest {
    private static final int BAD = -1;

    private static PassiveChecks form(String program, int statements, int[] versions, int equalities, int linear) {
        PassiveChecks x = Check.with(program, statements);
        Check.due("equalities() on a new object", Check.with(program, statements).equalities(), equalities);
        Check.due("linear() on a new object", Check.with(program, statements).linear(), linear);
        for (int again = 0; again < 2; again++) {
            for (int v = 0; v < 4; v++) {
                Check.due("versions(" + v + ")", x.versions(v), versions[v]);
            }
            Check.due("equalities()", x.equalities(), equalities);
            Check.due("linear()", x.linear(), linear);
        }
        return x;
    }

    private static int[] of(int a, int b, int c, int d) {
        return new int[] {a, b, c, d};
    }

    private static void sequences() {
        form("a1 a2 hb pa c1", 4, of(2, 1, 1, 0), 0, 8);
        form("k+a1 s!!b h d", 3, of(0, 0, 0, 1), 0, 9);
        form("a1 t b1", 3, of(1, 0, 0, 0), 0, 3);
        PassiveChecks x = Check.with("a1", 1);
        Check.due("versions(-1)", x.versions(-1), BAD);
        Check.due("versions(4)", x.versions(4), BAD);
        Check.due("versions(MIN)", x.versions(Integer.MIN_VALUE), BAD);
        Check.due("versions(MAX)", x.versions(Integer.MAX_VALUE), BAD);
    }

    private static void choices() {
        form("ia(b1)(b2)", 3, of(0, 3, 0, 0), 2, 12);
        form("ia(c1)()", 2, of(0, 0, 2, 0), 2, 10);
        form("i!a()()", 1, of(0, 0, 0, 0), 0, 3);
        form("d1 i!a(kd)(sd)", 4, of(0, 0, 0, 1), 0, 9);
        form("ia(t)(b1)b2", 4, of(0, 2, 0, 0), 0, 7);
        form("ia(b1)(t)b2", 4, of(0, 2, 0, 0), 0, 7);
        form("ia(t)(t)b1", 4, of(0, 0, 0, 0), 0, 4);
        form("ia(ib(t)(t)c1)(d1)d2", 7, of(0, 0, 0, 2), 0, 10);
        form("ia(hahb)(hbhc)ia(ha)()", 7, of(4, 3, 2, 0), 8, 33);
    }

    private static void tries() {
        form("y(t)(kb)", 3, of(0, 0, 0, 0), 0, 4);
        form("y(a1)(b1 b2)c1", 5, of(1, 0, 1, 0), 0, 5);
        form("y(ib(a1 t)(ic(a2 t)(t)))(k1)", 9, of(3, 0, 0, 0), 3, 23);
        form("y(ib(a1 t)(a1 t))(ka)", 7, of(3, 0, 0, 0), 2, 17);
        form("a1 y(ib(t)(t))(ka)", 6, of(1, 0, 0, 0), 0, 9);
        form("y(ia(t)(b1))(b2)", 5, of(0, 3, 0, 0), 2, 14);
        form("y(y(t)(b1 t))(kb)", 6, of(0, 1, 0, 0), 0, 8);
        form("y(y(t)(b1))(b2)", 5, of(0, 1, 0, 0), 0, 5);
        form("y(t)(t)a1", 4, of(0, 0, 0, 0), 0, 3);
        form("y(ia(t)())(t)a1", 5, of(1, 0, 0, 0), 0, 7);
        form("y(ia(y(b1 t)(b2 t))(b3))(hb)hb", 10, of(0, 6, 0, 0), 2, 20);
        form("t y(t)(a1)", 4, of(0, 0, 0, 0), 0, 1);
        form("y(ia(t)())()y(ia(t)())()", 6, of(0, 0, 0, 0), 0, 8);
        form("y(ib(a1 t)(t))()y(t)(ka)", 8, of(2, 0, 0, 0), 2, 17);
        form("y(ia(t)(ib(a1 t)(t)))(ka)", 8, of(2, 0, 0, 0), 3, 21);
        form("y(ia(t)(c1 y(t)(b1)))(kb)", 8, of(0, 2, 2, 0), 4, 24);
        form("y(w1 1(c1 y(t)(b1)) t)(kb)", 8, of(0, 2, 2, 0), 0, 15);
    }

    private static void loops() {
        form("wa =b1(b2 c1)d1", 4, of(0, 2, 2, 1), 0, 17);
        form("w1 1(b1)ia(b2)()", 4, of(0, 4, 0, 0), 2, 17);
        form("y(w1 1(b1 t))(kb)", 5, of(0, 3, 0, 0), 2, 17);
        form("w1 1(t b1)", 3, of(0, 1, 0, 0), 0, 6);
        form("w1 1(t)a1", 3, of(1, 0, 0, 0), 0, 8);
        form("w1 !a(wb c(hd)pa a1)", 4, of(2, 0, 0, 3), 0, 17);
        form("y(w1 1(t))(w1 1(i1(a1)()))", 6, of(4, 0, 0, 0), 4, 28);
    }

    private static void copied(String program, int statements, long size) {
        Check.due("copied()", Check.with(program, statements).copied(), size);
    }

    private static void copying() {
        copied("", 0, 1);
        copied("a1 a2 hb pa c1", 4, 9);
        copied("k+a1 s!!b h d", 3, 10);
        copied("t", 1, 1);
        copied("a1 t b1 b2", 4, 3);
        copied("ia(b1)(b2)", 3, 9);
        copied("ia()()k1", 2, 9);
        copied("i!a(t)(b1)a1", 4, 11);
        copied("wa =b1(b2 c1)d1", 4, 22);
        copied("y(t)(kb)", 3, 3);
        copied("y(k1 t)(b1)", 4, 5);
        copied("y(a1)(b1)", 3, 3);
        copied("y(w1 1(t))(b1)", 4, 10);
        copied("y(y(t)(t))(a1 a2)", 6, 5);
        copied("y(y(ia(t)())(ha t))(a1)hb", 8, 3 + 4 + 1 + 2);
        copied("i0()()".repeat(20), 20, 4 * (1 << 20) - 3);
        copied("w11(i0(t)())".repeat(4) + "i0()()".repeat(12), 24, 4 * 4096 - 3 + 4 * (3 + 2 + 5 + 1));
        PassiveChecks x = Check.with("w1 1(ha)", 2);
        Check.type(x, "=!a0");
        x.invariant(0);
        Check.due("copied()", x.copied(), 12 + 2 + 5 + 1 + 1);
        Check.due("linear()", x.linear(), 1 + 1 + 12 + 1);
    }

    private static void otherPrograms() {
        PassiveChecks x = form("y(ia(t)(b1))(b2)", 5, of(0, 3, 0, 0), 2, 14);
        Check.change(x, "", 0);
        Check.due("copied()", x.copied(), 1);
        Check.due("versions(1)", x.versions(1), 0);
        Check.due("linear()", x.linear(), 0);
        Check.due("equalities()", x.equalities(), 0);
        Check.due("undo()", x.undo(), 1);
        Check.due("copied()", x.copied(), 9);
        Check.due("linear()", x.linear(), 14);
    }

    public static void main(String[] args) {
        sequences();
        choices();
        tries();
        loops();
        copying();
        otherPrograms();
        Check.finish();
    }
}
