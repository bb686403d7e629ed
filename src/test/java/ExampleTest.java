/** The examples of README.md, and what it says about them. */
public final class ExampleTest extends Checks {
    public static void main(String[] args) {
        begin("README.md, the root of 2");
        due("precision", x.precision(0, 200), 64);
        due("number", x.number(0, 2, 0, 0), 0);
        due("root", x.root(0, 0, 2, 0), -1);
        due("write", x.write(0, 10, 0, 0), 1);
        due("out", out(), "141421356237309504880168872420969807856967187537694807317668");

        about = "README.md, a text";
        x.flags(true);
        x.feed(0x2D302E31, 0x40330000, 0, 0, 0);
        due("end", x.end(6), 14);
        gives("read", x.read(1, 10, 0), 1, "0 -25b2 0");
        finish("examples");
    }
}
