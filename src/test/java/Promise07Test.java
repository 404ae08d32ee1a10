/** Promise 7: fault. */
public final class Promise07Test {
    public static void main(String[] args) {
        Bench bench = new Bench(1);
        Bench.due("fault before accept", bench.desk.fault(), PolicyDesk.NONE);
        bench.accept();
        Bench.due("fault of an empty draft", bench.desk.fault(), 0);
        bench.addAll("class f p", "type a");
        Bench.due("fault after adding", bench.desk.fault(), 0);
        bench.accept();
        Bench.due("fault after an accept that threw not", bench.desk.fault(), PolicyDesk.NONE);
        bench.addAll("allow a a f p", "never a a f p");
        Bench.due("fault before the next accept", bench.desk.fault(), PolicyDesk.NONE);
        bench.accept();
        Bench.due("fault of what is against itself", bench.desk.fault(), 3);
        bench.addAll("rank b 1");
        bench.accept();
        Bench.due("fault of what is wrong", bench.desk.fault(), 4);
        bench.desk.cut(0);
        bench.add("typo");
        bench.read();
        bench.may(0, 0, 0);
        bench.desk.image();
        Bench.due("fault after other calls", bench.desk.fault(), 4);
        bench.feed(1, 1, 1, 0, 1, 0, 0, 0, 0, 0, 0);
        Bench.due("read", bench.read(), 1);
        Bench.due("fault after a read", bench.desk.fault(), 4);
        bench.addAll("class f p");
        bench.accept();
        Bench.due("fault at the end", bench.desk.fault(), 1);
        bench.addAll("type a");
        bench.accept();
        Bench.due("fault at last", bench.desk.fault(), PolicyDesk.NONE);
        Bench.finish();
    }
}
