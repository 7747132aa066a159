final class ModelTest {
    static void run() {
    }
}
