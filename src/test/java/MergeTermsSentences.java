/** Of "Terms": merging, memory asked back and costs. */
final class MergeTermsSentences extends SentenceGroup {
    MergeTermsSentences(Checks checks, Document document) {
        super(checks, document);
    }

    @Override
    void all() {
        noBoundary("Terms", "Merging.", "Memory asked back.", "Costs.");
        fewestRows();
        asManyAsItHasWays();
        inputsAreNoRuns();
        firstOfTheFirstRows();
        combinedInTheOutput();
        mergeIsOver();
        sortIsDone();
        madeLessWhileCollecting();
        madeLessWhileMerging();
        notCutShort();
        cutShort();
        inputsAreOrdered();
        equalKeysApart();
        costs();
        costsOfCombining();
        noCostsOfWhatIsLeft();
    }

    private void fewestRows() {
        holds("Terms", "A merge is begun with the runs that have the fewest rows, of several those with the lower"
            + " numbers;");
        GrantedSort x = Sorts.withRuns(3, false, "1 2 3 / 4 5 / 6 / 7 8 / 9 10 11");
        x.merge();
        due("the one row, and the first two", Sorts.runNumbers(x), "0 3 4");
        x.step(3);
        due("the output", Sorts.run(x, 5), "4#3*1 5#4*1 6#5*1");
        x.merge();
        due("two rows, and the first three", Sorts.runNumbers(x), "4 5");
        x.step(9);
        x.merge();
        due("an output counts as the last one", Sorts.runNumbers(x), "6");
        GrantedSort y = Sorts.withRuns(4, false, "1 2 / 3 4 / 5 6 / 7 8 / 9 10");
        y.merge();
        due("all alike", Sorts.runNumbers(y), "3 4");
        GrantedSort z = Sorts.withRows(2, 119);
        z.finish();
        z.grant(3);
        z.merge();
        due("the last one of 60, and the first one", z.runs(), 58);
        due("the first run that stays", z.runAt(0), 1);
        due("the last run that stays", z.runAt(57), 58);
        due("each of them once", z.runAt(31), 32);
    }

    private void asManyAsItHasWays() {
        holds("Terms", "it takes as many as it has ways, or all if there are not so many, but at least 2.");
        due("as many runs as ways", Sorts.withRuns(5, false, "1/2/3/4").merge(), 4);
        due("one run more", Sorts.withRuns(5, false, "1/2/3/4/5").merge(), 4);
        due("one run less", Sorts.withRuns(5, false, "1/2/3").merge(), 3);
        due("two runs", Sorts.withRuns(20, false, "1/2").merge(), 2);
        due("two ways", Sorts.withRuns(3, false, "1/2/3").merge(), 2);
        due("one way", Sorts.withRuns(2, false, "1/2/3").merge(), NOT_POSSIBLE);
        due("one run", Sorts.withRuns(20, false, "1").merge(), NOT_POSSIBLE);
    }

    private void inputsAreNoRuns() {
        holds("Terms", "Its inputs are no longer among the runs.");
        GrantedSort x = Sorts.withRuns(3, false, "1 / 2 / 3");
        x.merge();
        due("runs", x.runs(), 1);
        due("the first run", x.runAt(0), 2);
        due("no second one", x.runAt(1), NO_SUCH);
        due("size of an input", x.size(0), NO_SUCH);
        due("size of the other input", x.size(1), NO_SUCH);
        due("row of an input", x.row(1, 0, 0), NO_SUCH);
        x.step(1);
        due("row of the output", x.row(3, 0, 0), NO_SUCH);
        x.step(1);
        due("input behind the merge", x.size(0), NO_SUCH);
    }

    private void firstOfTheFirstRows() {
        holds("Terms", "A step of a merge moves that row that comes first among the first rows of all inputs to the end"
            + " of the output.");
        GrantedSort x = Sorts.withRuns(4, false, "5 9 / 5 6 / 0 999");
        x.merge();
        String[] left = {"5#0*1 9#1*1 / 5#2*1 6#3*1 / 999#5*1", "9#1*1 / 5#2*1 6#3*1 / 999#5*1",
            "9#1*1 / 6#3*1 / 999#5*1", "9#1*1 / 999#5*1", "999#5*1"};
        String[] output = {"0#4*1", "0#4*1 5#0*1", "0#4*1 5#0*1 5#2*1", "0#4*1 5#0*1 5#2*1 6#3*1",
            "0#4*1 5#0*1 5#2*1 6#3*1 9#1*1"};
        for (int i = 0; i < left.length; i++) {
            due("a step", x.step(1), 1);
            due("rows in the output", x.ofMerge(2), i + 1);
            due("rows in the inputs", x.ofMerge(3), 5 - i);
            due("runs of a cut", x.grant(2), i == 4 ? 0 : left[i].split("/").length + 1);
            String rows = Sorts.disk(x).replaceAll("\\d+: ", "");
            due("the disk behind it", rows, i == 4 ? "" : output[i] + " / " + left[i]);
            x.undo();
        }
        x.step(1);
        due("the output", Sorts.disk(x), "3: 0#4*1 5#0*1 5#2*1 6#3*1 9#1*1 999#5*1");
    }

    private void combinedInTheOutput() {
        holds("Terms", "In the combining mode, a row whose key is equal to that of the last row of the output is"
            + " combined with that row instead: its count is added to the count of that row.");
        GrantedSort x = Sorts.withRuns(4, true, "5 5 9 / 5 5 5 6 / 5 9");
        x.merge();
        x.step(1);
        due("the first row has none to be combined with", x.ofMerge(2), 1);
        due("a step that combines is a step", x.step(2), 2);
        due("one row in the output", x.ofMerge(2), 1);
        due("three in the inputs", x.ofMerge(3), 3);
        x.step(3);
        due("counts are added", Sorts.disk(x), "3: 5#0*6 6#6*1 9#2*2");
        GrantedSort y = Sorts.withRuns(4, true, "0 / 0");
        y.merge();
        y.step(2);
        due("the key 0", Sorts.disk(y), "2: 0#0*2");
        GrantedSort z = Sorts.withRuns(4, false, "5 5 / 5");
        z.merge();
        z.step(3);
        due("not in the combining mode", Sorts.disk(z), "2: 5#0*1 5#1*1 5#2*1");
    }

    private void mergeIsOver() {
        holds("Terms", "When all inputs are empty, the merge is over: the output becomes a run with the next number.");
        GrantedSort x = Sorts.withRuns(4, false, "1 4 / 2");
        x.merge();
        x.step(2);
        due("one row left", x.isMerging(), 1);
        due("no run yet", x.runs(), 0);
        due("not numbered yet", x.count(6), 2);
        due("the last step", x.step(1), 1);
        due("over", x.isMerging(), 0);
        due("no merge", x.ofMerge(0), NONE);
        due("the run", Sorts.disk(x), "2: 1#0*1 2#2*1 4#1*1");
        due("numbered", x.count(6), 3);
        due("it was not cut short", x.count(5), 0);
        GrantedSort y = Sorts.withRuns(4, true, "7 / 7");
        y.merge();
        y.step(1);
        due("one row left that will be combined", y.isMerging(), 1);
        y.step(1);
        due("over with a row that is combined", Sorts.disk(y), "2: 7#0*2");
    }

    private void sortIsDone() {
        holds("Terms", "The sort is done if there is no merge, and there is at most one run.");
        due("no run", Twins.after(GrantedSort::new, GrantedSort::finish).get().isDone(), 1);
        due("one run", Sorts.withRuns(2, false, "1 2").isDone(), 1);
        GrantedSort x = Sorts.withRuns(3, false, "1 / 2");
        due("two runs", x.isDone(), 0);
        x.merge();
        due("no run, but a merge", x.isDone(), 0);
        x.step(1);
        due("a merge with one input left", x.isDone(), 0);
        x.step(1);
        due("one run", x.isDone(), 1);
        GrantedSort y = Sorts.withRuns(3, false, "1 / 2 / 3");
        y.merge();
        due("one run and a merge", y.isDone(), 0);
        y.step(2);
        due("two runs", y.isDone(), 0);
    }

    private void madeLessWhileCollecting() {
        holds("Terms", "If the size of the memory is made less while rows are collected and there are more rows in"
            + " memory than it has room for then, the rows in memory are written.");
        GrantedSort x = Sorts.withKeys(6, false, 9, 7, 8, 6);
        due("less, and just room", x.grant(4), 0);
        due("the memory", Sorts.memory(x), "9 7 8 6");
        due("one row too many", x.grant(3), 1);
        due("all of them are written", Sorts.disk(x), "0: 6#3*1 7#1*1 8#2*1 9#0*1");
        due("the memory", x.memory(1), 0);
        GrantedSort y = Sorts.withKeys(20, false, 9, 7, 8);
        due("the least size", y.grant(2), 1);
        due("all of them are written", Sorts.disk(y), "0: 7#1*1 8#2*1 9#0*1");
        GrantedSort z = Sorts.withKeys(4, true, 9, 9, 9, 8);
        due("rows that are combined need no room", z.grant(2), 0);
        due("the memory", Sorts.memory(z), "9 8");
        GrantedSort w = Sorts.withKeys(2, false, 9, 7);
        due("more", w.grant(20), 0);
        due("the same", w.grant(20), 0);
        due("the memory", Sorts.memory(w), "9 7");
    }

    private void madeLessWhileMerging() {
        holds("Terms", "If it is made less while there is a merge that has more inputs with rows left than its ways"
            + " would be then, the merge is cut short:");
        GrantedSort x = Sorts.withRuns(6, false, "1 9 / 2 8 / 3 7 / 4 6");
        x.merge();
        x.step(1);
        due("just as many ways", x.grant(5), 0);
        due("merging", x.isMerging(), 1);
        due("cuts", x.count(5), 0);
        due("one way too few", x.grant(4), 5);
        due("not merging", x.isMerging(), 0);
        due("cuts", x.count(5), 1);
        GrantedSort y = Sorts.withRuns(20, false, "1/2/3/4/5/6/7/8/9");
        due("at most 8", y.merge(), 8);
        due("20 to 9 is less, but as many ways", y.grant(9), 0);
        due("merging", y.isMerging(), 1);
        due("one less", y.grant(8), 8);
        due("cut short", y.isMerging(), 0);
        due("the runs", y.runs(), 9);
    }

    private void notCutShort() {
        holds("Terms", "If it is made less while there is a merge that has more inputs with rows left than its ways"
            + " would be then, the merge is cut short:");
        GrantedSort x = Sorts.withRuns(5, false, "1 / 2 9 / 3 8 / 4 7");
        x.merge();
        x.step(1);
        due("an input that is empty does not count", x.grant(4), 0);
        due("merging", x.isMerging(), 1);
        due("three that are left are too many", x.grant(3), 4);
        GrantedSort y = Sorts.withRuns(4, false, "1 / 2 / 3 9");
        y.merge();
        y.step(2);
        due("one input left, and the least size", y.grant(2), 0);
        due("a step", y.step(200), 2);
        due("the output", Sorts.disk(y), "3: 1#0*1 2#1*1 3#2*1 9#3*1");
        GrantedSort z = Sorts.withRuns(2, false, "1 / 2 / 3");
        due("no merge", z.grant(3), 0);
        z.merge();
        due("more", z.grant(20), 0);
        due("merging", z.isMerging(), 1);
    }

    private void cutShort() {
        holds("Terms", "what is in the output becomes a run, if it is not empty, with the next number; then what is"
            + " left of each input that is not empty becomes a run again, with the next numbers, in the order of the"
            + " inputs.");
        GrantedSort x = Sorts.withRuns(5, false, "4 9 / 1 / 2 8 / 3 7 / 0 5 6");
        x.merge();
        x.step(2);
        due("output and three inputs", x.grant(2), 4);
        due("the disk", Sorts.disk(x), "4: 0#7*1 5#8*1 6#9*1 / 5: 1#2*1 2#3*1 / 6: 4#0*1 9#1*1 / 7: 8#4*1 / 8: 3#5*1"
            + " 7#6*1");
        due("no merge", x.ofMerge(2), NONE);
        due("memory that it needs", x.memory(1), 0);
        GrantedSort y = Sorts.withRuns(4, false, "3 / 2 / 1");
        y.merge();
        due("with an empty output", y.grant(3), 3);
        due("the disk", Sorts.disk(y), "3: 3#0*1 / 4: 2#1*1 / 5: 1#2*1");
        due("numbered", y.count(6), 6);
        y.merge();
        y.step(2);
        due("a later merge begins with an empty output", Sorts.disk(y), "5: 1#2*1 / 6: 2#1*1 3#0*1");
    }

    private void inputsAreOrdered() {
        holds("Terms", "The inputs of a merge are ordered by their numbers.");
        GrantedSort x = Sorts.withRuns(5, false, "8 9 10 / 7 / 5 6 / 4");
        x.merge();
        x.grant(2);
        due("not by their rows", Sorts.disk(x), "4: 8#0*1 9#1*1 10#2*1 / 5: 7#3*1 / 6: 5#4*1 6#5*1 / 7: 4#6*1");
    }

    private void equalKeysApart() {
        holds("Terms", "Cutting a merge short does not make more rows than there were; but in the combining mode rows"
            + " with equal keys can be in different runs again.");
        GrantedSort x = Sorts.withRuns(4, true, "5 6 / 5 / 5 7");
        x.merge();
        x.step(2);
        due("rows ahead of the cut", x.count(1), 4);
        due("cut short", x.grant(2), 3);
        due("rows behind it", x.count(1), 4);
        due("counts behind it", x.count(2), 5);
        due("the disk", Sorts.disk(x), "3: 5#0*2 / 4: 6#1*1 / 5: 5#3*1 7#4*1");
        x.grant(4);
        x.run();
        due("combined in the end", Sorts.disk(x), "6: 5#0*3 6#1*1 7#4*1");
    }

    private void costs() {
        holds("Terms", "A row that is written to a run costs 1 when it is written (by writing the rows in memory, or by"
            + " a step that moves it to an output; combining costs nothing), and a row that is taken from an input"
            + " costs 1.");
        GrantedSort x = new GrantedSort();
        due("a new object", x.count(3), 0);
        x.grant(3);
        x.add(4);
        x.add(3);
        x.add(2);
        due("rows in memory", x.count(3), 0);
        x.add(1);
        due("a full memory that is written", x.count(3), 3);
        x.flush();
        due("flush", x.count(3), 4);
        x.flush();
        due("flush of nothing", x.count(3), 4);
        x.add(7);
        x.add(6);
        x.add(5);
        x.grant(2);
        due("a smaller memory", x.count(3), 7);
        x.add(9);
        x.finish();
        due("finish", x.count(3), 8);
        x.grant(20);
        x.merge();
        due("a merge that is begun", x.count(3), 8);
        x.step(1);
        due("a step: taken and written", x.count(3), 10);
        x.step(7);
        due("and no costs for the output", x.count(3), 8 + 2 * 8);
        x.run();
        due("a sort that is done", x.count(3), 24);
    }

    private void costsOfCombining() {
        holds("Terms", "combining costs nothing");
        GrantedSort x = Sorts.withKeys(6, true, 4, 4, 4);
        x.flush();
        due("rows that are combined in memory", x.count(3), 1);
        x.add(4);
        x.finish();
        x.merge();
        x.step(1);
        due("a step that moves", x.count(3), 2 + 2);
        x.step(1);
        due("a step that combines: only taken", x.count(3), 2 + 2 + 1);
    }

    private void noCostsOfWhatIsLeft() {
        holds("Terms", "What is left of inputs becomes runs without costs.");
        GrantedSort x = Sorts.withRuns(4, false, "1 6 / 2 5 / 3 4");
        x.merge();
        due("cut short at once", x.grant(3), 3);
        due("costs", x.count(3), 6);
        x.undo();
        x.step(2);
        due("cut short later", x.grant(2), 4);
        due("costs", x.count(3), 6 + 2 * 2);
    }
}
