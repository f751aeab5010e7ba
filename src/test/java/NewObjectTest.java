/** Promise 1: a new object has no OBJECTS. */
final class NewObjectTest {
    public static void main(String[] args) {
        Runs runs = new Runs();
        StringBuilder script = new StringBuilder("count 0 = 0\n");
        for (int o = -1; o <= 16; o++) {
            script.append("drop " + o + " ! NoSuchElementException\n");
            script.append("map " + o + " 4 0 0 ! NoSuchElementException\n");
            script.append("view " + o + " 4 0 0 ! NoSuchElementException\n");
            script.append("cursor " + o + " ! NoSuchElementException\n");
            script.append("move " + o + " 1 0 ! NoSuchElementException\n");
            script.append("item " + o + " 0 0 ! NoSuchElementException\n");
        }
        for (int o = 0; o <= 15; o++) {
            script.append("count " + (10 + o) + " = -1\ncount " + (30 + o) + " = -1\n");
        }
        runs.play("a new one", script.append("make 2 0 0 = 0; count 0 = 1").toString());
        runs.play("a new one knows nothing of others", "count 0 = 0; make 0 0 0 = 0");
        runs.end();
    }
}
