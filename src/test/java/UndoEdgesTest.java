/** The edges of promises 58 to 62, each with the sentence that names it. */
public final class UndoEdgesTest {
    public static void main(String[] args) throws Exception {
        undo();
        save();
        restore();
        writeBatches();
        outputByte();
        Edges.end("UndoEdgesTest");
    }

    private static BatchWarehouse changed(int times) {
        BatchWarehouse x = Scene.fresh();
        for (int i = 0; i < times; i++) {
            x.passDays(1);
        }
        return x;
    }

    private static void undo() throws Exception {
        Edges.section("Promise 58");
        Edges.edge("Undoes the latest change that has not been undone.", () -> {
            BatchWarehouse x = changed(3);
            x.undo();
            x.undo();
            Check.due("two undone", 1, x::day);
            x.issue(0, 1);
            x.undo();
            Check.due("the issue", 50, () -> x.onHand(0));
            Check.due("not the days", 1, x::day);
            x.undo();
            Check.due("the first", 0, x::day);
            Check.sameSight("as before all changes", Sight.ofAll(Scene::fresh), Sight.ofAll(() -> {
                BatchWarehouse y = changed(3);
                y.undo();
                y.undo();
                y.issue(0, 1);
                y.undo();
                y.undo();
                return y;
            }));
        });
        Edges.edge("Returns the number of changes that can still be undone.", () -> {
            for (int times = 1; times <= 13; times++) {
                BatchWarehouse x = changed(times);
                int kept = Math.min(6, times);
                for (int left = kept - 1; left >= 0; left--) {
                    Check.due("after " + times + " changes", left, x::undo);
                }
                Check.impossible("after " + times + " changes no more", x::undo);
                Check.due("the day then", times - kept, x::day);
            }
        });
        Edges.edge("Throws `IllegalStateException` if there is none", () -> {
            Edges.impossible(Scene::fresh, (x, v) -> x.undo(), 0);
            Edges.impossible(Scene::bare, (x, v) -> x.undo(), 0);
            for (int times : new int[] {1, 6, 7}) {
                Edges.impossible(() -> {
                    BatchWarehouse x = changed(times);
                    for (int i = 0; i < Math.min(6, times); i++) {
                        x.undo();
                    }
                    return x;
                }, (x, v) -> x.undo(), 0);
            }
            Edges.impossible(() -> {
                BatchWarehouse x = changed(3);
                x.save(0);
                x.restore(0);
                return x;
            }, (x, v) -> x.undo(), 0);
        });
    }

    private static void save() throws Exception {
        Edges.section("Promise 59");
        Edges.edge("`slot`: 0 or 1", () -> {
            Edges.accepts(Scene::fresh, (x, v) -> x.save(v), 0, 1);
            Edges.accepts(Scene::busy, (x, v) -> x.save(v), 0, 1);
        });
        Edges.edge("Throws `IndexOutOfBoundsException` if the slot does not exist", () -> {
            Edges.outside(Scene::fresh, (x, v) -> x.save(v), -1, 2);
            Edges.outside(Scene::busy, (x, v) -> x.save(v), -1, 2, 3);
            Edges.outside(Scene::busy, (x, v) -> x.save(v), Edges.FAR);
        });
        Edges.edge("Returns the current day.", () -> {
            Check.due("0", 0, () -> Scene.fresh().save(0));
            Check.due("1", 1, () -> changed(1).save(1));
            Check.due("9999", 9999, () -> Scene.lastDay().save(1));
        });
        Edges.edge("Saves the state and replaces what was saved in the slot before.", () -> {
            BatchWarehouse x = changed(1);
            x.save(0);
            x.save(1);
            x.passDays(1);
            x.save(0);
            x.passDays(1);
            Check.due("replaced", 2, () -> x.restore(0));
            Check.due("not in the other slot", 1, () -> x.restore(1));
            Check.sameSight("only the slot changes", Sight.ofAll(() -> {
                BatchWarehouse y = Scene.busy();
                y.save(1);
                y.save(1);
                return y;
            }), Sight.ofAll(() -> {
                BatchWarehouse y = Scene.busy();
                y.save(1);
                return y;
            }));
            Check.sameSight("the state stays", Sight.ofState(Scene::busy), Sight.ofState(() -> {
                BatchWarehouse y = Scene.busy();
                y.save(0);
                return y;
            }));
            BatchWarehouse z = changed(6);
            z.save(0);
            Check.due("saving is no change", 5, z::undo);
        });
    }

    private static void restore() throws Exception {
        Edges.section("Promise 60");
        Edges.edge("`slot`: 0 or 1", () -> Edges.accepts(Scene::busy, (x, v) -> x.restore(v), 0, 1));
        Edges.edge("Throws `IndexOutOfBoundsException` if the slot does not exist", () -> {
            Edges.outside(Scene::fresh, (x, v) -> x.restore(v), -1, 2);
            Edges.outside(Scene::busy, (x, v) -> x.restore(v), -1, 2, 3);
            Edges.outside(Scene::busy, (x, v) -> x.restore(v), Edges.FAR);
        });
        Edges.edge("Throws `IllegalStateException` if nothing is saved in the slot", () -> {
            Edges.impossible(Scene::fresh, (x, v) -> x.restore(v), 0, 1);
            for (int slot = 0; slot < 2; slot++) {
                int filled = slot;
                Scene.Maker maker = () -> {
                    BatchWarehouse x = changed(2);
                    x.save(filled);
                    return x;
                };
                Edges.impossible(maker, (x, v) -> x.restore(v), 1 - filled);
                Edges.accepts(maker, (x, v) -> x.restore(v), filled);
            }
            Edges.impossible(() -> {
                BatchWarehouse x = Scene.busy();
                x.truncate(0);
                Check.put(x, "warehouse;product z 1;");
                x.load();
                return x;
            }, (x, v) -> x.restore(v), 0, 1);
        });
        Edges.edge("Returns the current day of the restored state.", () -> {
            BatchWarehouse x = Scene.fresh();
            x.save(0);
            x.passDays(999);
            x.save(1);
            Check.due("an earlier day", 0, () -> x.restore(0));
            Check.due("the day", 0, x::day);
            Check.due("a later day", 999, () -> x.restore(1));
            Check.due("the day", 999, x::day);
            BatchWarehouse last = Scene.lastDay();
            last.save(0);
            Check.due("day 9999", 9999, () -> last.restore(0));
        });
        Edges.edge("Restores a saved state, which stays saved, and clears the undo history.", () -> {
            BatchWarehouse x = changed(6);
            x.save(1);
            x.restore(1);
            Check.impossible("no change is left", x::undo);
            x.issue(1, 100);
            Check.due("the same again", 6, () -> x.restore(1));
            Check.due("as it was saved", 100, () -> x.onHand(1));
            Check.impossible("the issue cannot be undone", x::undo);
            x.issue(1, 1);
            Check.due("a change after it can", 0, x::undo);
            Check.due("the other changes stay", 6, x::day);
            Check.sameSight("all of the state", Sight.ofState(Scene::busy), Sight.ofState(() -> {
                BatchWarehouse y = Scene.busy();
                y.save(0);
                Check.outcome(() -> y.cancel(0));
                Check.outcome(() -> y.receive(0, 1, 1, 1));
                Check.outcome(() -> y.takeStock(3, 7));
                Check.outcome(() -> y.issue(1, 7));
                y.passDays(50);
                y.writeOffExpired();
                y.restore(0);
                return y;
            }));
            Check.sameSight("and no text", Sight.ofTexts(Scene::busy).replaceAll("(?s)run.*", ""), Sight.ofTexts(() -> {
                BatchWarehouse y = Scene.busy();
                y.restore(0);
                return y;
            }).replaceAll("(?s)run.*", ""));
        });
    }

    private static void writeBatches() throws Exception {
        Edges.section("Promise 61");
        Edges.product((x, v) -> x.writeBatches(v));
        Edges.edge("Each batch with an on-hand quantity above 0 contributes its on-hand quantity, an at sign (byte 64) and its expiry day, both"
            + " numbers in decimal, followed by an exclamation mark (byte 33) if it is expired.", () -> {
                Check.due("no batch", "", () -> Check.batches(Scene.bare(), 0));
                String[] digits = {"1 0", "9 9", "10 10", "99 99", "100 100", "999 999", "1 1000", "101 9999", "200 2000", "5 1001"};
                for (String batch : digits) {
                    Check.due(batch, batch.replace(' ', '@'), () -> Check.batches(Check.loaded("warehouse;product z 1;batch z " + batch + " 1;"), 0));
                }
                BatchWarehouse x = Check.loaded("warehouse;product z 1;batch z 5 3 1;batch z 1 3 1;");
                x.issue(0, 5);
                Check.due("an empty one is left out", "1@3", () -> Check.batches(x, 0));
                x.reserve(0, 1, 3);
                Check.due("a reserved one is not", "1@3", () -> Check.batches(x, 0));
                x.passDays(3);
                Check.due("on its last day", "1@3", () -> Check.batches(x, 0));
                x.passDays(1);
                Check.due("the day after", "1@3!", () -> Check.batches(x, 0));
                x.writeOffExpired();
                Check.due("written off", "", () -> Check.batches(x, 0));
                Check.due("day 9999", "4@9998! 9@9999", () -> Check.batches(Scene.lastDay(), 0));
            });
        Edges.edge("The batches appear by ascending expiry day, batches with equal expiry days by ascending number, with one space (byte 32)"
            + " between them.", () -> {
                BatchWarehouse x = Check.loaded("warehouse;product z 1;product y 1;batch z 1 9999 1;batch z 2 0 1;batch y 8 5 1;batch z 3 9999 1;"
                    + "batch z 4 10 1;batch z 5 0 1;batch z 6 9 1;");
                Check.due("by day, then by number", "2@0 5@0 6@9 4@10 1@9999 3@9999", () -> Check.batches(x, 0));
                Check.due("one has no space", "8@5", () -> Check.batches(x, 1));
                StringBuilder twenty = new StringBuilder();
                for (int day = 1; day <= 20; day++) {
                    twenty.append(day > 1 ? " " : "").append("9@").append(day);
                }
                Check.due("20 batches", twenty.toString(), () -> Check.batches(Scene.twentyBatches(), 0));
            });
        Edges.edge("Returns the length of the output text in bytes.", () -> {
            Check.due("0", 0, () -> Scene.bare().writeBatches(0));
            Check.due("3", 3, () -> Scene.one().writeBatches(0));
            BatchWarehouse longest = Check.loaded("warehouse;product z 1;" + "batch z 999 9998 1;".repeat(20));
            Check.due("20 times 8 and 19", 179, () -> longest.writeBatches(0));
            for (int i = 0; i < 11; i++) {
                longest.passDays(Math.min(999, 9999 - longest.day()));
            }
            Check.due("the longest", 199, () -> longest.writeBatches(0));
            Check.due("its last byte", 33, () -> longest.outputByte(198));
            Check.outside("no byte behind it", () -> longest.outputByte(199));
        });
        Edges.edge("Writes the batches of a product to the output text, which is replaced.", () -> {
            BatchWarehouse x = Scene.fresh();
            x.writeBatches(0);
            x.writeBatches(2);
            Check.due("a shorter text", (int) '2', () -> x.outputByte(0));
            Check.outside("ends where it ends", () -> x.outputByte(4));
            x.writeBatches(0);
            Check.due("a longer one", (int) '5', () -> x.outputByte(8));
            x.issue(2, 24);
            x.writeBatches(2);
            Check.outside("an empty one", () -> x.outputByte(0));
            Check.sameSight("no change of the state", Sight.ofState(Scene::busy) + Sight.ofTexts(Scene::busy), Sight.ofState(() -> {
                BatchWarehouse y = Scene.busy();
                y.writeBatches(1);
                return y;
            }) + Sight.ofTexts(() -> {
                BatchWarehouse y = Scene.busy();
                y.writeBatches(1);
                return y;
            }));
        });
    }

    private static void outputByte() throws Exception {
        Edges.section("Promise 62");
        Edges.edge("`index`: position in the output text, from 0", () -> {
            BatchWarehouse x = Scene.fresh();
            x.writeBatches(0);
            String due = "20@3 30@5";
            for (int i = 0; i < due.length(); i++) {
                int index = i;
                Check.due("byte " + i, (int) due.charAt(i), () -> x.outputByte(index));
            }
        });
        Edges.edge("Returns the byte.", () -> {
            BatchWarehouse x = Scene.lastDay();
            x.writeBatches(0);
            Check.due("@", 64, () -> x.outputByte(1));
            Check.due("!", 33, () -> x.outputByte(6));
            Check.due("space", 32, () -> x.outputByte(7));
            Check.due("9", 57, () -> x.outputByte(8));
            Check.due("4", 52, () -> x.outputByte(0));
        });
        Edges.edge("Throws `IndexOutOfBoundsException` if index is out of range or nothing was written yet", () -> {
            Edges.outside(Scene::fresh, (x, v) -> x.outputByte(v), -1, 0, 1);
            Edges.outside(() -> {
                BatchWarehouse x = Scene.bare();
                x.writeBatches(0);
                return x;
            }, (x, v) -> x.outputByte(v), -1, 0, 1);
            Edges.outside(() -> {
                BatchWarehouse x = Scene.fresh();
                x.writeBatches(0);
                return x;
            }, (x, v) -> x.outputByte(v), -1, 9, 10, 199, 200);
            Edges.outside(() -> {
                BatchWarehouse x = Scene.fresh();
                Check.outcome(() -> x.writeBatches(3));
                return x;
            }, (x, v) -> x.outputByte(v), 0);
            Edges.outside(Scene::busy, (x, v) -> x.outputByte(v), Edges.FAR);
        });
    }
}
