/** Promises 49 to 52: scripts. */
public final class ScriptsTest {
    public static void main(String[] args) {
        promise49Type();
        promise50EachCommand();
        promise50Numbers();
        promise50AllOrNone();
        promise50OneChange();
        promise51ErrorPositions();
        promise51LatestError();
        promise52FailedCommand();
        promise52EachFault();
        Check.done();
    }

    private static void promise49Type() {
        ChordCanal canal = new ChordCanal();
        for (char bad : new char[] {0, 31, 127, 128, 255, 256 + 'h', Character.MAX_VALUE}) {
            Check.refused("character " + (int) bad, IllegalArgumentException.class, canal, () -> canal.type(bad));
        }
        for (int length = 1; length <= 60; length++) {
            Check.same("length", length, canal.type(length % 2 == 0 ? ' ' : '~'));
        }
        Check.refused("full", IllegalStateException.class, canal, () -> canal.type('h'));
        Check.refused("full and bad", IllegalArgumentException.class, canal, () -> canal.type('\n'));
        Check.same("not a script", "IllegalArgumentException", Canals.run(canal, ""));
        Check.same("empty again", 1, canal.type('h'));
    }

    private static void promise50EachCommand() {
        scriptIs("barge 7 9d", c -> c.addBarge(7, 9, true));
        scriptIs("barge 11 1u", c -> c.addBarge(11, 1, false));
        scriptIs("barge 007 3u", c -> c.addBarge(7, 3, false));
        scriptIs("tune 4 1 11", c -> c.tune(4, 1, 11));
        scriptIs("tune 0 0 2", c -> c.tune(0, 0, 2));
        scriptIs("fix 0 1", c -> c.replaceString(0, 1));
        scriptIs("demand 3 M", c -> c.setDemand(3, 'M'));
        scriptIs("demand 3 m", c -> c.setDemand(3, 'm'));
        scriptIs("demand 0 d", c -> c.setDemand(0, 'd'));
        scriptIs("demand 4 a", c -> c.setDemand(4, 'a'));
        scriptIs("flow 0", c -> c.setInflow(0));
        scriptIs("flow 9", c -> c.setInflow(9));
        scriptIs("fill 5 24", c -> c.fill(5, 24));
        scriptIs("fill 2 1", c -> c.fill(2, 1));
        scriptIs("leave 1", c -> c.removeBarge(1));
        scriptIs("hour", c -> c.advance(1));
        scriptIs("hour 7", c -> c.advance(7));
        scriptIs("hour 100", c -> c.advance(100));
        scriptIs("hour;hour 2;flow 3;hour", c -> {
            c.advance(3);
            c.setInflow(3);
            c.advance(1);
        });
    }

    private interface Change {
        void of(ChordCanal canal);
    }

    private static ChordCanal used() {
        ChordCanal canal = Canals.withBarges(3);
        canal.addBarge(7, 2, false);
        canal.advance(3);
        return canal;
    }

    private static void scriptIs(String script, Change change) {
        ChordCanal typed = used();
        ChordCanal called = used();
        int commands = script.split(";").length;
        Check.same(script, String.valueOf(commands), Canals.run(typed, script));
        change.of(called);
        Check.same(script, View.of(called), View.of(typed));
        Check.same(script + " empties the buffer", 1, typed.type('x'));
        typed.undo();
        Check.same(script + " undone", View.of(used()), View.of(typed));
    }

    private static void promise50Numbers() {
        ChordCanal canal = new ChordCanal();
        Check.same("leading zeros", "1", Canals.run(canal, "hour 001"));
        Check.same("time", 1, canal.time());
        Check.same("zero hours", "IllegalStateException", Canals.run(canal, "hour 0"));
        Check.same("999 hours", "IllegalStateException", Canals.run(canal, "hour 999"));
        Check.same("twelve commands", "12", Canals.run(canal, "hour;".repeat(11) + "hour"));
        Check.same("time", 13, canal.time());
        Check.same("60 characters", "8", Canals.run(canal, "flow 1;".repeat(6) + "fill 0 01;hour 002"));
        Check.same("time", 15, canal.time());
    }

    private static void promise50AllOrNone() {
        ChordCanal canal = used();
        String before = View.of(canal);
        Check.same("fails at the end", "IllegalStateException",
                Canals.run(canal, "barge 7 1d;tune 0 0 5;flow 9;fill 5 1;hour 9;leave 99"));
        Check.same("none took effect", before, View.of(canal));
        Check.same("which one", 5, canal.failedCommand());
        Check.same("no change to undo", 4, canal.undo());
        Check.same("no id is used up", 4, canal.addBarge(7, 1, true));
        Check.same("no form", "IllegalArgumentException", Canals.run(canal, "hour;hour;hour x"));
        Check.same("no command ran", 0, canal.time());
    }

    private static void promise50OneChange() {
        ChordCanal canal = new ChordCanal();
        Check.same("script", "3", Canals.run(canal, "barge 7 1d;barge 7 1u;hour 2"));
        Check.same("undo of the whole script", 0, canal.undo());
        Check.same("as before", View.of(new ChordCanal()), View.of(canal));
        Check.same("later commands see the earlier ones", "3", Canals.run(canal, "barge 7 1d;hour;leave 0"));
        Check.same("removed", 0, canal.bargeCount());
    }

    private static void promise51ErrorPositions() {
        // The mark stands before the first character that cannot continue a script, or at the end.
        String[] scripts = {"^", "^x", "^;", "^ hour", "h^", "hou^", "hour;^", "hour;^;", "hour ^", "hour ^ ", "hour ^x",
            "hour^5", "hour 100^0", "hour 1^ ", "hour 1;^", "hour ^hour", "^Hour", "f^", "f^a", "fi^", "fi^z", "fix^",
            "fix ^", "fix 0^", "fix 0 ^", "fix 0^0", "fix 0 1^0", "fix 0 0^ ", "fil^", "fill^", "fill 2^", "fill 2 ^",
            "fill 2^2", "fill 2 123^4", "fill 2 ^x", "fl^", "flo^", "flow^", "flow ^", "flow 1^0", "flow ^x", "b^",
            "barg^f", "barge^", "barge ^", "barge ^d", "barge 7^", "barge 7 ^", "barge 7 1^", "barge 7 1^1",
            "barge 7 1^x", "barge 7 1^ ", "barge 7 1d^ ", "barge 012^3", "barge 012 ^", "barge 7^d", "barge 7 1^D",
            "tune ^", "tune 1^0", "tune 1 0^", "tune 1 0 ^", "tune 1 0 123^4", "tune 1^,", "tune 1 0 ^a", "demand 1^",
            "demand 1 ^", "demand 1 ^x", "demand 1 ^D", "demand 1 M^M", "demand 1^2", "demand ^ ", "leave^", "leave ^",
            "leave 123^4", "leave ^-", "leave ^x", "hour;flow 1;fi^y", "hour 12;hour 12;hour 12^ ", "tun^f", "t^", "d^",
            "deman^D", "l^", "l^f", "ba^ ", "hour^r", "^~", "hour;hour 1;tune 4 1 12;b^", "hour ^;", "h^hour",
            "barge 7 1d^u", "fix 0 0;fix^", "flow 1^,flow 1", "flow 1;^ hour"};
        for (String marked : scripts) {
            String script = marked.replace("^", "");
            ChordCanal canal = new ChordCanal();
            Check.same(script, "IllegalArgumentException", Canals.run(canal, script));
            Check.same("error position of " + script, marked.indexOf('^'), canal.errorPosition());
            Check.same(script + " empties the buffer", 1, canal.type('x'));
            Check.same(script + " changes nothing", View.of(new ChordCanal()), View.of(canal));
        }
    }

    private static void promise51LatestError() {
        ChordCanal canal = new ChordCanal();
        Check.refused("none", java.util.NoSuchElementException.class, canal, canal::errorPosition);
        Canals.run(canal, "hour");
        Canals.run(canal, "leave 0");
        Check.refused("none yet", java.util.NoSuchElementException.class, canal, canal::errorPosition);
        Canals.run(canal, "hour;hr");
        Check.same("first", 6, canal.errorPosition());
        Canals.run(canal, "");
        Check.same("the empty script", 0, canal.errorPosition());
        Canals.run(canal, "hour;".repeat(12));
        Check.same("60 characters", 60, canal.errorPosition());
        Canals.run(canal, "hour");
        Canals.run(canal, "leave 0");
        canal.undo();
        Check.same("stays", 60, canal.errorPosition());
    }

    private static void promise52FailedCommand() {
        ChordCanal canal = new ChordCanal();
        Check.refused("none", java.util.NoSuchElementException.class, canal, canal::failedCommand);
        Canals.run(canal, "hour x");
        Check.refused("none yet", java.util.NoSuchElementException.class, canal, canal::failedCommand);
        Canals.run(canal, "hour;leave 0;leave 1");
        Check.same("the first that fails", 1, canal.failedCommand());
        Canals.run(canal, "hour;hour");
        Canals.run(canal, "hour;hour x");
        Check.same("stays", 1, canal.failedCommand());
        Canals.run(canal, "leave 0");
        Check.same("the latest", 0, canal.failedCommand());
        Canals.run(canal, "hour;".repeat(10) + "leave 3");
        Check.same("the eleventh", 10, canal.failedCommand());
    }

    private static void promise52EachFault() {
        String[] bad = {"barge 12 1d", "barge 0 0d", "barge 999 9u", "tune 5 0 0", "tune 0 2 0", "tune 0 0 12", "fix 5 0",
            "fix 0 2", "fix 9 9", "demand 5 M", "demand 9 a", "fill 6 1", "fill 0 0", "fill 0 91", "fill 5 25",
            "fill 0 999", "leave 4", "leave 999", "hour 0", "hour 101", "hour 000"};
        for (String command : bad) {
            ChordCanal canal = used();
            String before = View.of(canal);
            Check.same(command, "IllegalStateException", Canals.run(canal, "flow 9;" + command + ";hour"));
            Check.same(command, 1, canal.failedCommand());
            Check.same(command, before, View.of(canal));
            Check.same(command + " empties the buffer", 1, canal.type('x'));
        }
        ChordCanal full = Canals.withBarges(7);
        Check.same("too many barges", "IllegalStateException", Canals.run(full, "barge 1 1d;barge 1 1d"));
        Check.same("the second", 1, full.failedCommand());
        Check.same("eight are allowed", "1", Canals.run(full, "barge 1 1d"));
    }
}
