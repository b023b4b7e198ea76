/-! methods: class, locals, what it returns, parameters, kind (0 instance, 1 static, 2 constructor), handlers (from, to, at, catch type) -/
def mm_MTL : List (Nat × Nat × Option FieldType × Nat × Nat × List (Nat × Nat × Nat × Nat)) := [
  (0, 1, none, 0, 2, []),
  (0, 4, none, 3, 0, []),
  (0, 2, some .int, 0, 0, []),
  (0, 1, some .int, 0, 0, []),
  (0, 4, some .int, 1, 0, []),
  (0, 2, some .boolean, 0, 0, []),
  (0, 1, none, 0, 0, []),
  (0, 1, none, 0, 0, []),
  (0, 7, none, 2, 0, []),
  (0, 2, none, 1, 0, []),
  (0, 1, some .int, 0, 0, []),
  (0, 2, some .int, 1, 1, []),
  (0, 1, some .int, 1, 1, []),
  (0, 1, some .int, 1, 1, []),
  (0, 1, some .int, 1, 1, []),
  (1, 1, none, 0, 2, []),
  (1, 10, some .int, 6, 0, []),
  (1, 8, none, 3, 0, []),
  (1, 6, none, 1, 0, []),
  (1, 1, none, 0, 0, []),
  (1, 7, none, 2, 0, []),
  (2, 1, none, 0, 2, []),
  (2, 2, none, 0, 0, []),
  (2, 4, none, 3, 0, []),
  (2, 2, none, 1, 0, []),
  (2, 3, none, 1, 0, []),
  (2, 5, none, 4, 0, []),
  (2, 6, none, 5, 0, []),
  (2, 6, none, 4, 0, []),
  (2, 4, some .int, 0, 0, []),
  (2, 2, some .int, 1, 0, []),
  (2, 3, some .int, 2, 0, []),
  (2, 3, some .int, 2, 0, []),
  (2, 7, some .boolean, 1, 0, []),
  (2, 5, some .boolean, 1, 0, []),
  (2, 4, some .int, 2, 0, []),
  (2, 3, none, 0, 0, []),
  (2, 3, some .int, 1, 0, []),
  (2, 3, some .int, 1, 0, []),
  (2, 3, some .int, 0, 0, []),
  (2, 3, some .int, 0, 0, []),
  (2, 1, some .int, 0, 0, []),
  (2, 2, some .int, 1, 0, []),
  (2, 7, some .boolean, 4, 0, []),
  (3, 1, none, 0, 2, []),
  (3, 3, some .int, 2, 0, []),
  (3, 2, none, 1, 0, []),
  (3, 1, some .int, 0, 0, []),
  (3, 2, some .boolean, 1, 0, []),
  (3, 5, some .boolean, 1, 0, []),
  (3, 5, some .boolean, 1, 0, []),
  (3, 4, some .boolean, 1, 0, []),
  (3, 3, some .boolean, 0, 0, []),
  (3, 1, some .boolean, 0, 0, []),
  (3, 3, some .boolean, 1, 0, []),
  (3, 4, some .boolean, 2, 0, []),
  (3, 11, some .int, 5, 0, []),
  (3, 1, some .int, 1, 1, []),
  (3, 3, some .int, 3, 1, []),
  (4, 1, none, 0, 2, []),
  (4, 5, none, 3, 0, []),
  (4, 4, none, 1, 0, []),
  (4, 5, none, 1, 0, []),
  (4, 10, some .int, 3, 0, []),
  (4, 9, none, 5, 1, []),
  (4, 6, some .boolean, 2, 0, []),
  (4, 8, some .boolean, 1, 0, []),
  (4, 6, some .boolean, 2, 0, []),
  (4, 5, none, 4, 0, []),
  (4, 9, some .boolean, 4, 0, []),
  (4, 8, none, 4, 0, []),
  (4, 10, some .boolean, 5, 0, []),
  (5, 1, none, 0, 2, []),
  (5, 8, none, 4, 0, []),
  (5, 4, none, 1, 0, []),
  (5, 1, some .int, 0, 0, []),
  (5, 2, some .int, 1, 0, []),
  (5, 2, some .boolean, 2, 1, []),
  (5, 5, none, 2, 0, []),
  (5, 5, none, 1, 0, []),
  (5, 11, none, 2, 0, []),
  (5, 7, some .int, 3, 0, []),
  (5, 10, none, 4, 0, []),
  (5, 10, some .int, 4, 0, []),
  (5, 11, none, 7, 1, []),
  (5, 11, none, 6, 0, []),
  (5, 2, some .int, 2, 1, []),
  (5, 2, none, 1, 1, []),
  (5, 7, none, 3, 1, []),
  (5, 4, some .int, 1, 0, []),
  (5, 2, none, 0, 0, []),
  (5, 4, none, 1, 0, []),
  (5, 7, none, 2, 0, []),
  (5, 10, none, 3, 0, []),
  (6, 1, none, 0, 2, []),
  (6, 3, none, 2, 0, []),
  (6, 2, some .int, 1, 0, []),
  (6, 2, some .int, 1, 0, []),
  (6, 3, some .int, 1, 0, []),
  (6, 1, some .int, 0, 0, []),
  (6, 2, some .boolean, 1, 0, []),
  (6, 6, none, 2, 0, []),
  (6, 2, none, 1, 0, []),
  (6, 10, some .int, 3, 0, []),
  (6, 5, some .int, 3, 0, []),
  (6, 7, some .int, 2, 0, []),
  (6, 6, some .boolean, 1, 0, []),
  (6, 12, some .int, 3, 0, []),
  (6, 12, some .int, 5, 0, []),
  (7, 1, none, 0, 2, []),
  (7, 5, none, 4, 0, []),
  (7, 2, none, 1, 0, []),
  (7, 1, some .int, 0, 0, []),
  (8, 1, none, 0, 2, []),
  (8, 6, some (.object RX6), 3, 0, []),
  (8, 8, none, 5, 0, []),
  (8, 8, none, 3, 1, []),
  (8, 9, some .int, 2, 0, []),
  (8, 7, none, 4, 0, []),
  (8, 4, some .int, 1, 0, []),
  (8, 8, some .int, 1, 0, []),
  (8, 4, some .int, 1, 0, []),
  (8, 5, some .int, 1, 0, []),
  (9, 1, none, 0, 2, []),
  (9, 11, some .int, 4, 0, []),
  (9, 13, some .int, 6, 0, []),
  (9, 13, none, 4, 0, []),
  (9, 13, none, 3, 0, []),
  (9, 9, none, 4, 0, []),
  (9, 5, none, 4, 0, []),
  (9, 8, none, 2, 0, []),
  (10, 1, none, 0, 2, []),
  (10, 9, some .int, 3, 0, []),
  (10, 8, some .int, 2, 0, []),
  (10, 10, none, 3, 0, []),
  (10, 5, none, 3, 0, []),
  (10, 5, none, 3, 0, []),
  (10, 6, none, 3, 0, []),
  (10, 6, none, 3, 0, []),
  (11, 2, none, 0, 2, []),
  (11, 7, some .int, 5, 0, []),
  (11, 17, some .int, 7, 0, []),
  (11, 13, none, 4, 0, []),
  (11, 12, some .int, 3, 0, []),
  (11, 9, some .int, 5, 0, []),
  (11, 6, some .int, 4, 0, []),
  (11, 4, some .int, 2, 0, []),
  (11, 2, some .int, 1, 0, []),
  (11, 5, some .int, 2, 0, []),
  (11, 4, some .int, 2, 0, []),
  (11, 2, some .int, 1, 0, []),
  (11, 2, some .int, 0, 0, []),
  (11, 5, some .int, 2, 0, []),
  (11, 3, some .int, 1, 0, []),
  (11, 2, some .int, 0, 0, []),
  (11, 3, some .int, 1, 0, []),
  (11, 3, some .int, 0, 0, []),
  (11, 3, some .int, 1, 0, []),
  (11, 4, some .int, 2, 0, []),
  (11, 5, some .int, 3, 0, []),
  (11, 6, some .int, 4, 0, []),
  (11, 7, some .int, 5, 0, []),
  (11, 7, some .boolean, 5, 0, []),
  (11, 4, some .int, 2, 0, []),
  (11, 9, some .int, 4, 0, []),
  (11, 5, some .int, 3, 0, []),
  (11, 4, some .int, 0, 0, []),
  (11, 4, some .boolean, 2, 0, []),
  (11, 3, some .int, 0, 0, []),
  (11, 3, some .int, 0, 0, []),
  (11, 10, some .int, 3, 0, []),
  (11, 6, some .int, 3, 0, []),
  (11, 5, some .boolean, 2, 0, []),
  (11, 6, some .int, 2, 0, []),
  (11, 7, some .int, 4, 0, []),
  (11, 7, none, 4, 0, []),
  (11, 5, some .int, 1, 0, []),
  (11, 3, none, 2, 0, []),
  (11, 4, none, 2, 0, []),
  (11, 4, some .int, 2, 0, []),
  (11, 7, some .int, 4, 0, []),
  (11, 2, some .int, 1, 0, []),
  (11, 1, some .boolean, 1, 1, []),
  (11, 1, some .int, 1, 1, []),
  (11, 1, none, 1, 1, []),
  (11, 2, none, 2, 1, []),
  (11, 1, none, 1, 1, []),
  (11, 2, none, 2, 1, []),
  (11, 2, none, 2, 1, []),
  (11, 2, none, 2, 1, []),
  (11, 1, none, 1, 1, []),
  (11, 5, some .int, 4, 1, []),
  (11, 2, some (.object RX6), 2, 1, []),
  (11, 2, some (.object RX6), 1, 0, []),
  (11, 1, some (.object RX6), 0, 0, []),
  (11, 2, some (.object RX2), 1, 0, []),
  (11, 1, some (.object RX2), 0, 0, []),
  (11, 4, some .int, 1, 0, []),
  (11, 4, some .int, 1, 0, []),
  (11, 5, some .boolean, 1, 0, []),
  (11, 2, some (.object RX7), 1, 0, []),
  (11, 3, some (.object RX7), 1, 0, []),
  (12, 2, none, 0, 2, []),
  (12, 1, some .int, 0, 0, []),
  (12, 6, some .boolean, 3, 1, []),
  (12, 4, some .int, 3, 1, []),
  (12, 2, some .int, 2, 1, []),
  (12, 1, some .int, 1, 1, []),
  (12, 1, some .boolean, 1, 1, []),
  (12, 1, some .int, 1, 1, []),
  (12, 2, some .boolean, 1, 0, []),
  (12, 1, some .boolean, 1, 1, []),
  (12, 5, some .int, 4, 0, []),
  (12, 3, some .int, 2, 0, []),
  (12, 10, some .int, 5, 0, []),
  (12, 11, some .int, 7, 0, []),
  (12, 10, none, 4, 0, []),
  (12, 11, some .int, 3, 0, []),
  (12, 5, some .boolean, 4, 0, []),
  (12, 7, some .int, 5, 0, []),
  (12, 5, some .int, 4, 0, []),
  (12, 3, some .int, 2, 0, []),
  (12, 2, some .int, 1, 0, []),
  (12, 5, some .int, 2, 0, []),
  (12, 4, some .int, 2, 0, []),
  (12, 2, some .int, 1, 0, []),
  (12, 2, some .int, 0, 0, []),
  (12, 2, some .int, 0, 0, []),
  (12, 4, some .int, 1, 0, []),
  (12, 4, some .int, 0, 0, []),
  (12, 2, some .int, 0, 0, []),
  (12, 2, none, 1, 0, []),
  (12, 4, none, 2, 0, []),
  (12, 2, some .int, 1, 1, []),
  (12, 3, none, 1, 0, []),
  (12, 1, some .int, 1, 1, []),
  (12, 1, some .int, 1, 1, []),
  (12, 5, some .int, 4, 0, []),
  (12, 1, some .int, 0, 0, []),
  (12, 5, some .int, 2, 0, []),
  (12, 2, some .int, 1, 0, []),
  (12, 7, none, 5, 0, []),
  (12, 3, none, 1, 0, []),
  (12, 1, some .int, 1, 1, []),
  (12, 1, some .int, 1, 1, []),
  (12, 2, some .int, 1, 0, []),
  (12, 2, some .int, 1, 0, []),
  (12, 16, none, 7, 0, []),
  (12, 9, some .int, 5, 0, []),
  (12, 13, some .int, 9, 0, []),
  (12, 5, some .int, 4, 0, []),
  (12, 14, some .int, 6, 0, []),
  (12, 1, some .int, 1, 1, []),
  (12, 3, some .int, 3, 1, []),
  (12, 1, some .int, 1, 1, []),
  (12, 2, some .int, 2, 1, []),
  (12, 5, none, 0, 0, []),
  (12, 4, none, 2, 0, []),
  (12, 8, none, 2, 0, []),
  (12, 4, some .int, 3, 0, []),
  (12, 4, some .int, 3, 0, []),
  (12, 2, some .int, 2, 1, []),
  (12, 1, some .int, 1, 1, []),
  (12, 3, some .int, 1, 0, []),
  (12, 3, none, 2, 0, []),
  (12, 5, none, 2, 0, []),
  (12, 5, none, 3, 0, []),
  (12, 6, none, 2, 0, []),
  (12, 6, none, 2, 0, []),
  (12, 2, none, 0, 0, []),
  (12, 4, none, 1, 0, []),
  (12, 4, none, 1, 0, []),
  (12, 4, none, 1, 0, []),
  (12, 9, none, 5, 0, []),
  (12, 8, none, 2, 0, []),
  (12, 5, none, 1, 0, []),
  (12, 12, none, 2, 0, []),
  (12, 6, none, 1, 0, []),
  (12, 3, none, 2, 0, []),
  (12, 5, some .int, 4, 0, []),
  (12, 6, some .int, 4, 0, []),
  (12, 10, some .int, 4, 0, []),
  (12, 9, none, 4, 0, []),
  (12, 17, none, 5, 0, []),
  (12, 15, none, 5, 0, []),
  (12, 6, none, 3, 0, []),
  (12, 7, none, 1, 0, []),
  (12, 4, some .int, 3, 0, []),
  (12, 4, some .int, 3, 0, []),
  (12, 10, none, 2, 0, []),
  (12, 9, some .boolean, 6, 0, []),
  (12, 4, some .int, 2, 0, []),
  (12, 2, none, 1, 0, []),
  (12, 6, none, 1, 0, []),
  (12, 12, some .boolean, 5, 0, []),
  (12, 3, none, 2, 0, []),
  (12, 5, some .int, 2, 0, []),
  (12, 3, some .int, 1, 0, []),
  (12, 2, some .int, 0, 0, []),
  (12, 5, none, 0, 0, []),
  (12, 6, some .int, 1, 0, []),
  (12, 5, some .int, 0, 0, []),
  (12, 2, some .int, 1, 0, []),
  (12, 4, some .int, 0, 0, []),
  (12, 4, some .boolean, 1, 0, []),
  (12, 5, some .boolean, 3, 0, []),
  (12, 5, some .boolean, 2, 0, []),
  (12, 8, some .int, 2, 0, []),
  (12, 5, some .int, 0, 0, []),
  (12, 3, none, 1, 0, []),
  (12, 2, some .int, 0, 0, []),
  (12, 2, some .boolean, 1, 0, []),
  (12, 3, some .int, 1, 0, []),
  (12, 6, some .int, 2, 0, []),
  (12, 3, some .boolean, 2, 0, []),
  (12, 5, some .int, 3, 0, []),
  (12, 2, some .int, 1, 0, []),
  (12, 5, some .int, 4, 0, []),
  (12, 4, some .int, 2, 0, []),
  (12, 6, some .int, 5, 0, []),
  (12, 6, some .boolean, 5, 0, []),
  (12, 6, some .int, 5, 0, []),
  (12, 6, some .boolean, 5, 0, []),
  (12, 4, some .int, 2, 0, []),
  (12, 7, some .int, 4, 0, []),
  (12, 4, some .int, 3, 0, []),
  (12, 4, some .int, 2, 0, []),
  (12, 10, some .boolean, 3, 0, []),
  (12, 9, none, 4, 0, []),
  (12, 7, some .boolean, 4, 0, []),
  (12, 7, some .int, 0, 0, []),
  (12, 3, some .boolean, 2, 0, []),
  (12, 3, some .int, 0, 0, []),
  (12, 1, some .int, 0, 0, []),
  (12, 1, none, 0, 0, []),
  (12, 3, none, 2, 0, []),
  (12, 1, some .int, 1, 1, []),
  (12, 2, none, 1, 0, []),
  (12, 3, none, 2, 0, []),
  (12, 1, some .boolean, 1, 1, []),
  (12, 1, some .int, 1, 1, []),
  (12, 1, none, 0, 0, []),
  (12, 4, some .boolean, 0, 0, []),
  (12, 4, some .boolean, 0, 0, []),
  (12, 2, some .int, 0, 0, []),
  (12, 14, some .int, 6, 0, []),
  (12, 3, some .int, 3, 1, []),
  (12, 7, some .int, 3, 0, []),
  (12, 9, some .int, 3, 0, []),
  (12, 6, some .int, 3, 0, []),
  (12, 7, some .boolean, 2, 0, []),
  (12, 8, some .boolean, 3, 0, []),
  (12, 4, some .int, 2, 0, []),
  (12, 1, some .int, 1, 1, []),
  (12, 20, some .int, 4, 0, []),
  (12, 1, some .boolean, 1, 1, []),
  (12, 5, none, 4, 0, []),
  (12, 2, some .boolean, 1, 0, []),
  (12, 4, some .int, 2, 0, []),
  (12, 6, some .int, 1, 0, []),
  (12, 3, none, 2, 0, []),
  (12, 5, none, 2, 0, []),
  (12, 3, some .int, 2, 0, []),
  (12, 7, some .int, 4, 0, []),
  (12, 2, some .int, 1, 0, []),
  (13, 8, some .int, 7, 1, [(0, 16, 19, 13), (0, 16, 23, 15)]),
  (13, 10, some .int, 9, 1, [(0, 20, 23, 21), (0, 20, 27, 13)]),
  (13, 7, some .int, 5, 1, [(0, 9, 12, 21), (0, 9, 16, 13)]),
  (13, 6, some .int, 5, 1, [(0, 12, 15, 21), (0, 12, 19, 13), (0, 12, 23, 15)]),
  (13, 8, some .int, 7, 1, [(0, 16, 19, 21), (0, 16, 23, 13)]),
  (13, 7, some .int, 6, 1, [(0, 14, 17, 21)]),
  (13, 5, some .int, 4, 1, [(0, 10, 13, 21), (0, 10, 17, 13)]),
  (13, 4, some .int, 3, 1, [(0, 9, 12, 13)]),
  (13, 6, some .int, 4, 1, [(0, 11, 14, 13), (0, 11, 18, 15)]),
  (13, 5, some .int, 4, 1, [(0, 10, 13, 21)]),
  (13, 5, some .int, 4, 1, [(0, 10, 13, 13)]),
  (13, 4, some .int, 3, 1, [(0, 9, 12, 21), (0, 9, 15, 13), (0, 9, 18, 15)]),
  (13, 4, some .int, 3, 1, [(0, 9, 12, 13), (0, 9, 15, 15)]),
  (13, 3, some .int, 2, 1, [(0, 8, 11, 15)]),
  (13, 4, some .int, 3, 1, [(0, 9, 12, 21)]),
  (13, 5, some .int, 4, 1, [(0, 10, 13, 21), (0, 10, 17, 13)]),
  (13, 6, some .int, 5, 1, [(0, 12, 15, 21), (0, 12, 19, 13)]),
  (13, 7, some .int, 6, 1, [(0, 14, 17, 21), (0, 14, 21, 13)]),
  (13, 8, some .int, 7, 1, [(0, 16, 19, 21)]),
  (13, 8, some .int, 7, 1, [(0, 23, 26, 21)]),
  (13, 5, some .int, 4, 1, [(0, 10, 13, 21), (0, 10, 17, 15)]),
  (13, 7, some .int, 6, 1, [(0, 14, 17, 21), (0, 14, 21, 13)]),
  (13, 6, some .int, 5, 1, [(0, 12, 15, 21), (0, 12, 19, 13), (0, 12, 23, 15)]),
  (13, 3, some .int, 2, 1, [(0, 8, 11, 15)]),
  (13, 5, some .int, 4, 1, [(0, 17, 20, 21)]),
  (13, 3, some .int, 2, 1, [(0, 8, 11, 15)]),
  (13, 6, some .int, 5, 1, [(0, 12, 15, 21), (0, 12, 19, 15)]),
  (13, 6, some .int, 5, 1, [(0, 12, 15, 21), (0, 12, 19, 13)]),
  (13, 5, some .int, 4, 1, [(0, 17, 20, 21)]),
  (13, 5, some .int, 4, 1, [(0, 10, 13, 21)]),
  (13, 7, some .int, 6, 1, [(0, 14, 17, 21), (0, 14, 21, 13)]),
  (13, 6, some .int, 5, 1, [(0, 9, 12, 21), (0, 9, 16, 13)]),
  (13, 4, some .int, 3, 1, [(0, 9, 12, 21), (0, 9, 15, 15)]),
  (13, 4, some .int, 3, 1, [(0, 6, 9, 21), (0, 6, 12, 15)]),
  (13, 4, some .int, 3, 1, [(0, 6, 9, 21), (0, 6, 12, 15)]),
  (13, 5, some .int, 4, 1, [(0, 10, 13, 21), (0, 10, 17, 13), (0, 10, 21, 15)]),
  (13, 7, some .int, 6, 1, [(0, 14, 17, 21), (0, 14, 21, 15)]),
  (13, 4, some .int, 3, 1, [(0, 9, 12, 13)]),
  (13, 7, some .boolean, 1, 1, [])]
def mm_MT (mi : Nat) : Nat × Nat × Option FieldType × Nat × Nat × List (Nat × Nat × Nat × Nat) := mm_MTL.getD mi (99, 0, none, 0, 9, [])
def mm_cdL : List (List (Nat × Instr × Nat)) := [mm_c0, mm_c1, mm_c2, mm_c3, mm_c4, mm_c5, mm_c6, mm_c7, mm_c8, mm_c9, mm_c10, mm_c11, mm_c12, mm_c13, mm_c14, mm_c15, mm_c16, mm_c17, mm_c18, mm_c19, mm_c20, mm_c21, mm_c22, mm_c23, mm_c24, mm_c25, mm_c26, mm_c27, mm_c28, mm_c29, mm_c30, mm_c31, mm_c32, mm_c33, mm_c34, mm_c35, mm_c36, mm_c37, mm_c38, mm_c39, mm_c40, mm_c41, mm_c42, mm_c43, mm_c44, mm_c45, mm_c46, mm_c47, mm_c48, mm_c49, mm_c50, mm_c51, mm_c52, mm_c53, mm_c54, mm_c55, mm_c56, mm_c57, mm_c58, mm_c59, mm_c60, mm_c61, mm_c62, mm_c63, mm_c64, mm_c65, mm_c66, mm_c67, mm_c68, mm_c69, mm_c70, mm_c71, mm_c72, mm_c73, mm_c74, mm_c75, mm_c76, mm_c77, mm_c78, mm_c79, mm_c80, mm_c81, mm_c82, mm_c83, mm_c84, mm_c85, mm_c86, mm_c87, mm_c88, mm_c89, mm_c90, mm_c91, mm_c92, mm_c93, mm_c94, mm_c95, mm_c96, mm_c97, mm_c98, mm_c99, mm_c100, mm_c101, mm_c102, mm_c103, mm_c104, mm_c105, mm_c106, mm_c107, mm_c108, mm_c109, mm_c110, mm_c111, mm_c112, mm_c113, mm_c114, mm_c115, mm_c116, mm_c117, mm_c118, mm_c119, mm_c120, mm_c121, mm_c122, mm_c123, mm_c124, mm_c125, mm_c126, mm_c127, mm_c128, mm_c129, mm_c130, mm_c131, mm_c132, mm_c133, mm_c134, mm_c135, mm_c136, mm_c137, mm_c138, mm_c139, mm_c140, mm_c141, mm_c142, mm_c143, mm_c144, mm_c145, mm_c146, mm_c147, mm_c148, mm_c149, mm_c150, mm_c151, mm_c152, mm_c153, mm_c154, mm_c155, mm_c156, mm_c157, mm_c158, mm_c159, mm_c160, mm_c161, mm_c162, mm_c163, mm_c164, mm_c165, mm_c166, mm_c167, mm_c168, mm_c169, mm_c170, mm_c171, mm_c172, mm_c173, mm_c174, mm_c175, mm_c176, mm_c177, mm_c178, mm_c179, mm_c180, mm_c181, mm_c182, mm_c183, mm_c184, mm_c185, mm_c186, mm_c187, mm_c188, mm_c189, mm_c190, mm_c191, mm_c192, mm_c193, mm_c194, mm_c195, mm_c196, mm_c197, mm_c198, mm_c199, mm_c200, mm_c201, mm_c202, mm_c203, mm_c204, mm_c205, mm_c206, mm_c207, mm_c208, mm_c209, mm_c210, mm_c211, mm_c212, mm_c213, mm_c214, mm_c215, mm_c216, mm_c217, mm_c218, mm_c219, mm_c220, mm_c221, mm_c222, mm_c223, mm_c224, mm_c225, mm_c226, mm_c227, mm_c228, mm_c229, mm_c230, mm_c231, mm_c232, mm_c233, mm_c234, mm_c235, mm_c236, mm_c237, mm_c238, mm_c239, mm_c240, mm_c241, mm_c242, mm_c243, mm_c244, mm_c245, mm_c246, mm_c247, mm_c248, mm_c249, mm_c250, mm_c251, mm_c252, mm_c253, mm_c254, mm_c255, mm_c256, mm_c257, mm_c258, mm_c259, mm_c260, mm_c261, mm_c262, mm_c263, mm_c264, mm_c265, mm_c266, mm_c267, mm_c268, mm_c269, mm_c270, mm_c271, mm_c272, mm_c273, mm_c274, mm_c275, mm_c276, mm_c277, mm_c278, mm_c279, mm_c280, mm_c281, mm_c282, mm_c283, mm_c284, mm_c285, mm_c286, mm_c287, mm_c288, mm_c289, mm_c290, mm_c291, mm_c292, mm_c293, mm_c294, mm_c295, mm_c296, mm_c297, mm_c298, mm_c299, mm_c300, mm_c301, mm_c302, mm_c303, mm_c304, mm_c305, mm_c306, mm_c307, mm_c308, mm_c309, mm_c310, mm_c311, mm_c312, mm_c313, mm_c314, mm_c315, mm_c316, mm_c317, mm_c318, mm_c319, mm_c320, mm_c321, mm_c322, mm_c323, mm_c324, mm_c325, mm_c326, mm_c327, mm_c328, mm_c329, mm_c330, mm_c331, mm_c332, mm_c333, mm_c334, mm_c335, mm_c336, mm_c337, mm_c338, mm_c339, mm_c340, mm_c341, mm_c342, mm_c343, mm_c344, mm_c345, mm_c346, mm_c347, mm_c348, mm_c349, mm_c350, mm_c351, mm_c352, mm_c353, mm_c354, mm_c355, mm_c356, mm_c357, mm_c358, mm_c359, mm_c360, mm_c361, mm_c362, mm_c363, mm_c364, mm_c365, mm_c366, mm_c367, mm_c368, mm_c369, mm_c370, mm_c371, mm_c372, mm_c373, mm_c374, mm_c375, mm_c376, mm_c377, mm_c378, mm_c379, mm_c380, mm_c381, mm_c382, mm_c383, mm_c384, mm_c385, mm_c386, mm_c387, mm_c388, mm_c389, mm_c390, mm_c391, mm_c392, mm_c393, mm_c394, mm_c395, mm_c396, mm_c397, mm_c398, mm_c399, mm_c400, mm_c401, mm_c402, mm_c403]
def mm_cd (mi pc : Nat) : Option (Instr × Nat) := match mm_cdL[mi]? with
  | some l => mm_lk l pc
  | none => none
def mm_yL : List MethodName := [yX0_init, yX0_open, yX0_code, yX0_eight, yX0_digits, yX0_endsAsTold, yX0_startWriting, yX0_startCounting, yX0_write, yX0_writeCode, yX0_byteCount, yX0_codeLength, yX0_codeOfSigned, yX0_signedLength, yX0_signedOfCode, yX1_init, yX1_codePicture, yX1_findVector, yX1_tryWay, yX1_takeBest, yX1_writePart, yX2_init, yX2_start, yX2_append, yX2_appendByte, yX2_makeRoom, yX2_appendHead, yX2_appendPicture, yX2_openPictures, yX2_wrongPlace, yX2_byteAt, yX2_wrongInPicture, yX2_wrongInSize, yX2_kindFits, yX2_placeFits, yX2_anchorAhead, yX2_markGroups, yX2_groupStart, yX2_groupEnd, yX2_groupCount, yX2_spotCount, yX2_partCount, yX2_endOf, yX2_isMended, yX3_init, yX3_wrongPlace, yX3_addStep, yX3_next, yX3_pass, yX3_readSum, yX3_readProduct, yX3_readFactor, yX3_readNumber, yX3_isDigitHere, yX3_readMinus, yX3_readParts, yX3_work, yX3_operands, yX3_join, yX4_init, yX4_takeReel, yX4_evenGroups, yX4_planGroups, yX4_groupNeed, yX4_layGroup, yX4_makeFilm, yX4_makeBlocks, yX4_makeOthers, yX4_startCut, yX4_addRow, yX4_keepGroup, yX4_makeAnew, yX5_init, yX5_openPicture, yX5_goTo, yX5_wayCount, yX5_modeOf, yX5_tells, yX5_takeVectors, yX5_foretell, yX5_spread, yX5_mean, yX5_fetch, yX5_farAt, yX5_lineUp, yX5_fetchRow, yX5_placeInPart, yX5_turn, yX5_turnFour, yX5_levelCount, yX5_makeForetold, yX5_addRest, yX5_takeLevels, yX5_exchange, yX6_init, yX6_resize, yX6_wide, yX6_high, yX6_base, yX6_total, yX6_isAsLarge, yX6_flood, yX6_become, yX6_nearest, yX6_partOf, yX6_farFrom, yX6_isOtherShot, yX6_movedFrom, yX6_partFarFrom, yX7_init, yX7_begin, yX7_goTo, yX7_goOn, yX8_init, yX8_readAnew, yX8_readPicture, yX8_mend, yX8_readParts, yX8_noteFacts, yX8_readPart, yX8_readBlock, yX8_readWaves, yX8_readRuns, yX9_init, yX9_readPlane, yX9_readRun, yX9_writePlane, yX9_findRuns, yX9_tryRun, yX9_take, yX9_tryTold, yX10_init, yX10_readPlane, yX10_readNumbers, yX10_writePlane, yX10_liftAll, yX10_lowerAll, yX10_lift, yX10_lower, yX11_init, yX11_blank, yX11_fill, yX11_noise, yX11_shift, yX11_put, yX11_sample, yX11_size, yX11_drop, yX11_feed, yX11_alter, yX11_tape, yX11_wipe, yX11_set, yX11_reel, yX11_unreel, yX11_make, yX11_read, yX11_bytes, yX11_film, yX11_coded, yX11_part, yX11_look, yX11_mended, yX11_shown, yX11_buffer, yX11_row, yX11_cut, yX11_kept, yX11_forget, yX11_filter, yX11_apply, yX11_distance, yX11_first, yX11_twin, yX11_movement, yX11_play, yX11_tick, yX11_lose, yX11_seek, yX11_player, yX11_frame, yX11_count, yX11_isSide, yX11_held, yX11_needSample, yX11_needWhat, yX11_needPlane, yX11_needCoded, yX11_needPlace, yX11_needPart, yX11_needFilm, yX11_placeOfSample, yX11_pictureShown, yX11_pictureAt, yX11_freePicture, yX11_filmAt, yX11_freeFilm, yX11_landed, yX11_pictureSum, yX11_canBeCut, yX11_playerAt, yX11_playingAt, yX12_init, yX12_thrown, yX12_in, yX12_hold, yX12_sideOf, yX12_from, yX12_isSide, yX12_floorHalf, yX12_isPicture, yX12_isPlane, yX12_cellOf, yX12_samplesOf, yX12_blank, yX12_fill, yX12_noise, yX12_shift, yX12_isSample, yX12_put, yX12_sample, yX12_size, yX12_drop, yX12_feed, yX12_alter, yX12_tape, yX12_wipe, yX12_bit, yX12_bits, yX12_codeOf, yX12_signedCode, yX12_fail, yX12_write, yX12_digits, yX12_writeCode, yX12_codeBits, yX12_unsigned, yX12_at, yX12_parts, yX12_anchor, yX12_mender, yX12_mend, yX12_clearMended, yX12_sizeOfPart, yX12_predFrom, yX12_partX, yX12_partY, yX12_foretell, yX12_meanAround, yX12_moved, yX12_nearest, yX12_between, yX12_planeOf, yX12_cellOfBlock, yX12_scan, yX12_sign, yX12_turnSquare, yX12_restOf, yX12_readBlock, yX12_partNumber, yX12_onLeft, yX12_howOf, yX12_ways, yX12_readVector, yX12_beSkipped, yX12_readPart, yX12_keepPart, yX12_lay, yX12_mendPart, yX12_readEnd, yX12_readBlocks, yX12_unlift, yX12_lift, yX12_linesThrough, yX12_readWavePlane, yX12_readWaves, yX12_readRunPlane, yX12_readRuns, yX12_readPicture, yX12_sourceAt, yX12_sourceOfPart, yX12_levelsOf, yX12_writeBlock, yX12_seekVector, yX12_tryWay, yX12_makePart, yX12_makeWaves, yX12_sampleToMake, yX12_refOf, yX12_makeRunPlane, yX12_runs, yX12_makePicture, yX12_freshByte, yX12_orderGroup, yX12_makeGroup, yX12_freshHead, yX12_set, yX12_reel, yX12_unreel, yX12_plan, yX12_make, yX12_parse, yX12_freshAt, yX12_headWrong, yX12_isTaken, yX12_isPlaceFor, yX12_isKind, yX12_pictureWrong, yX12_newFilm, yX12_hand, yX12_read, yX12_isFilm, yX12_bytes, yX12_film, yX12_isCoded, yX12_coded, yX12_partsOf, yX12_part, yX12_codedAt, yX12_filmCell, yX12_isLooked, yX12_look, yX12_mended, yX12_shown, yX12_buffer, yX12_row, yX12_groupEnd, yX12_cutRow, yX12_keepGroup, yX12_anew, yX12_cut, yX12_kept, yX12_forget, yX12_here, yX12_wrong, yX12_emit, yX12_strength, yX12_settle, yX12_await, yX12_isDigit, yX12_letterOf, yX12_nest, yX12_readAtom, yX12_readSign, yX12_filter, yX12_worked, yX12_joined, yX12_apply, yX12_distance, yX12_inRange, yX12_first, yX12_isSame, yX12_twin, yX12_size2, yX12_movement, yX12_isPlayer, yX12_play, yX12_refuses, yX12_groupOf, yX12_tick, yX12_lose, yX12_seek, yX12_player, yX12_frame, yX12_count, yL_blank, yL_fill, yL_noise, yL_shift, yL_put, yL_sample, yL_size, yL_drop, yL_feed, yL_alter, yL_set, yL_reel, yL_make, yL_read, yL_bytes, yL_film, yL_coded, yL_part, yL_look, yL_mended, yL_shown, yL_buffer, yL_row, yL_cut, yL_kept, yL_filter, yL_apply, yL_distance, yL_first, yL_twin, yL_movement, yL_play, yL_tick, yL_lose, yL_seek, yL_player, yL_frame, yL_count, yL_law]
def mm_y (mi : Nat) : MethodName := mm_yL.getD mi yL_law
def mm_bL : List ByteArray := [cX0_init, cX0_open, cX0_code, cX0_eight, cX0_digits, cX0_endsAsTold, cX0_startWriting, cX0_startCounting, cX0_write, cX0_writeCode, cX0_byteCount, cX0_codeLength, cX0_codeOfSigned, cX0_signedLength, cX0_signedOfCode, cX1_init, cX1_codePicture, cX1_findVector, cX1_tryWay, cX1_takeBest, cX1_writePart, cX2_init, cX2_start, cX2_append, cX2_appendByte, cX2_makeRoom, cX2_appendHead, cX2_appendPicture, cX2_openPictures, cX2_wrongPlace, cX2_byteAt, cX2_wrongInPicture, cX2_wrongInSize, cX2_kindFits, cX2_placeFits, cX2_anchorAhead, cX2_markGroups, cX2_groupStart, cX2_groupEnd, cX2_groupCount, cX2_spotCount, cX2_partCount, cX2_endOf, cX2_isMended, cX3_init, cX3_wrongPlace, cX3_addStep, cX3_next, cX3_pass, cX3_readSum, cX3_readProduct, cX3_readFactor, cX3_readNumber, cX3_isDigitHere, cX3_readMinus, cX3_readParts, cX3_work, cX3_operands, cX3_join, cX4_init, cX4_takeReel, cX4_evenGroups, cX4_planGroups, cX4_groupNeed, cX4_layGroup, cX4_makeFilm, cX4_makeBlocks, cX4_makeOthers, cX4_startCut, cX4_addRow, cX4_keepGroup, cX4_makeAnew, cX5_init, cX5_openPicture, cX5_goTo, cX5_wayCount, cX5_modeOf, cX5_tells, cX5_takeVectors, cX5_foretell, cX5_spread, cX5_mean, cX5_fetch, cX5_farAt, cX5_lineUp, cX5_fetchRow, cX5_placeInPart, cX5_turn, cX5_turnFour, cX5_levelCount, cX5_makeForetold, cX5_addRest, cX5_takeLevels, cX5_exchange, cX6_init, cX6_resize, cX6_wide, cX6_high, cX6_base, cX6_total, cX6_isAsLarge, cX6_flood, cX6_become, cX6_nearest, cX6_partOf, cX6_farFrom, cX6_isOtherShot, cX6_movedFrom, cX6_partFarFrom, cX7_init, cX7_begin, cX7_goTo, cX7_goOn, cX8_init, cX8_readAnew, cX8_readPicture, cX8_mend, cX8_readParts, cX8_noteFacts, cX8_readPart, cX8_readBlock, cX8_readWaves, cX8_readRuns, cX9_init, cX9_readPlane, cX9_readRun, cX9_writePlane, cX9_findRuns, cX9_tryRun, cX9_take, cX9_tryTold, cX10_init, cX10_readPlane, cX10_readNumbers, cX10_writePlane, cX10_liftAll, cX10_lowerAll, cX10_lift, cX10_lower, cX11_init, cX11_blank, cX11_fill, cX11_noise, cX11_shift, cX11_put, cX11_sample, cX11_size, cX11_drop, cX11_feed, cX11_alter, cX11_tape, cX11_wipe, cX11_set, cX11_reel, cX11_unreel, cX11_make, cX11_read, cX11_bytes, cX11_film, cX11_coded, cX11_part, cX11_look, cX11_mended, cX11_shown, cX11_buffer, cX11_row, cX11_cut, cX11_kept, cX11_forget, cX11_filter, cX11_apply, cX11_distance, cX11_first, cX11_twin, cX11_movement, cX11_play, cX11_tick, cX11_lose, cX11_seek, cX11_player, cX11_frame, cX11_count, cX11_isSide, cX11_held, cX11_needSample, cX11_needWhat, cX11_needPlane, cX11_needCoded, cX11_needPlace, cX11_needPart, cX11_needFilm, cX11_placeOfSample, cX11_pictureShown, cX11_pictureAt, cX11_freePicture, cX11_filmAt, cX11_freeFilm, cX11_landed, cX11_pictureSum, cX11_canBeCut, cX11_playerAt, cX11_playingAt, cX12_init, cX12_thrown, cX12_in, cX12_hold, cX12_sideOf, cX12_from, cX12_isSide, cX12_floorHalf, cX12_isPicture, cX12_isPlane, cX12_cellOf, cX12_samplesOf, cX12_blank, cX12_fill, cX12_noise, cX12_shift, cX12_isSample, cX12_put, cX12_sample, cX12_size, cX12_drop, cX12_feed, cX12_alter, cX12_tape, cX12_wipe, cX12_bit, cX12_bits, cX12_codeOf, cX12_signedCode, cX12_fail, cX12_write, cX12_digits, cX12_writeCode, cX12_codeBits, cX12_unsigned, cX12_at, cX12_parts, cX12_anchor, cX12_mender, cX12_mend, cX12_clearMended, cX12_sizeOfPart, cX12_predFrom, cX12_partX, cX12_partY, cX12_foretell, cX12_meanAround, cX12_moved, cX12_nearest, cX12_between, cX12_planeOf, cX12_cellOfBlock, cX12_scan, cX12_sign, cX12_turnSquare, cX12_restOf, cX12_readBlock, cX12_partNumber, cX12_onLeft, cX12_howOf, cX12_ways, cX12_readVector, cX12_beSkipped, cX12_readPart, cX12_keepPart, cX12_lay, cX12_mendPart, cX12_readEnd, cX12_readBlocks, cX12_unlift, cX12_lift, cX12_linesThrough, cX12_readWavePlane, cX12_readWaves, cX12_readRunPlane, cX12_readRuns, cX12_readPicture, cX12_sourceAt, cX12_sourceOfPart, cX12_levelsOf, cX12_writeBlock, cX12_seekVector, cX12_tryWay, cX12_makePart, cX12_makeWaves, cX12_sampleToMake, cX12_refOf, cX12_makeRunPlane, cX12_runs, cX12_makePicture, cX12_freshByte, cX12_orderGroup, cX12_makeGroup, cX12_freshHead, cX12_set, cX12_reel, cX12_unreel, cX12_plan, cX12_make, cX12_parse, cX12_freshAt, cX12_headWrong, cX12_isTaken, cX12_isPlaceFor, cX12_isKind, cX12_pictureWrong, cX12_newFilm, cX12_hand, cX12_read, cX12_isFilm, cX12_bytes, cX12_film, cX12_isCoded, cX12_coded, cX12_partsOf, cX12_part, cX12_codedAt, cX12_filmCell, cX12_isLooked, cX12_look, cX12_mended, cX12_shown, cX12_buffer, cX12_row, cX12_groupEnd, cX12_cutRow, cX12_keepGroup, cX12_anew, cX12_cut, cX12_kept, cX12_forget, cX12_here, cX12_wrong, cX12_emit, cX12_strength, cX12_settle, cX12_await, cX12_isDigit, cX12_letterOf, cX12_nest, cX12_readAtom, cX12_readSign, cX12_filter, cX12_worked, cX12_joined, cX12_apply, cX12_distance, cX12_inRange, cX12_first, cX12_isSame, cX12_twin, cX12_size2, cX12_movement, cX12_isPlayer, cX12_play, cX12_refuses, cX12_groupOf, cX12_tick, cX12_lose, cX12_seek, cX12_player, cX12_frame, cX12_count, cL_blank, cL_fill, cL_noise, cL_shift, cL_put, cL_sample, cL_size, cL_drop, cL_feed, cL_alter, cL_set, cL_reel, cL_make, cL_read, cL_bytes, cL_film, cL_coded, cL_part, cL_look, cL_mended, cL_shown, cL_buffer, cL_row, cL_cut, cL_kept, cL_filter, cL_apply, cL_distance, cL_first, cL_twin, cL_movement, cL_play, cL_tick, cL_lose, cL_seek, cL_player, cL_frame, cL_count, cL_law]
def mm_b (mi : Nat) : ByteArray := mm_bL.getD mi ⟨#[]⟩
/-- calls by their number in the class' pool: kind (0 virtual, 1 static, 2 constructor, 3 a nest mate's static, 4 a nest mate's constructor, 6 Object's, 7 .. Math's, 11 arraycopy), method, place of the word -/
def mm_ivT : Nat → List (Nat × Nat × Nat × Nat) := fun c => match c with
  | 0 => [(3, 6, 0, 201), (25, 0, 4, 1310), (29, 1, 11, 1056), (32, 0, 8, 1151), (36, 1, 12, 1053)]
  | 1 => [(3, 6, 0, 479), (11, 4, 72, 481), (20, 4, 0, 483), (48, 0, 6, 1020), (51, 0, 73, 1024), (66, 0, 74, 1032), (70, 0, 93, 1036), (81, 0, 17, 1045), (88, 0, 75, 1073), (92, 0, 18, 1077), (95, 0, 19, 1158), (104, 0, 20, 1143), (108, 0, 10, 1162), (118, 1, 13, 1050), (122, 0, 83, 1059), (126, 0, 76, 1081), (129, 0, 78, 1085), (133, 0, 79, 1092), (136, 0, 90, 1109), (139, 0, 92, 1113), (142, 0, 89, 1130), (145, 0, 91, 1134), (148, 0, 7, 1139), (154, 11, 0, 1157), (163, 0, 9, 1147), (166, 1, 77, 1155), (170, 1, 12, 1156)]
  | 2 => [(3, 6, 0, 333), (75, 0, 25, 1189), (79, 11, 0, 1193), (88, 0, 24, 1185), (93, 0, 23, 1202), (97, 4, 94, 1006), (98, 0, 95, 1007), (102, 0, 30, 1264), (109, 0, 31, 1270), (113, 0, 33, 1274), (117, 0, 34, 1279), (120, 0, 32, 1283), (123, 0, 35, 1278), (126, 0, 104, 1392), (130, 0, 98, 1396), (133, 0, 96, 1397)]
  | 3 => [(1, 6, 0, 1562), (30, 7, 0, 1586), (36, 0, 49, 1587), (40, 0, 47, 1599), (44, 0, 50, 1591), (47, 0, 46, 1611), (51, 0, 51, 1595), (54, 0, 52, 1603), (58, 0, 54, 1615), (61, 0, 55, 1619), (65, 0, 53, 1607), (68, 0, 48, 1623), (71, 1, 57, 1639), (75, 0, 96, 1642), (80, 0, 97, 1643), (83, 0, 103, 1644), (87, 1, 58, 1645), (91, 8, 0, 1648)]
  | 4 => [(3, 6, 0, 471), (11, 4, 0, 473), (20, 4, 15, 476), (27, 4, 131, 513), (34, 4, 123, 515), (62, 7, 0, 1170), (74, 0, 28, 1002), (81, 0, 63, 1009), (85, 1, 64, 1013), (95, 0, 16, 1016), (102, 0, 22, 1175), (105, 0, 26, 1179), (109, 0, 66, 1194), (113, 0, 67, 1206), (121, 0, 27, 1198), (125, 0, 6, 1210), (128, 0, 134, 1211), (132, 0, 126, 1228), (135, 0, 10, 1255), (152, 0, 38, 1530), (156, 8, 0, 1534), (159, 0, 70, 1535), (166, 0, 71, 1539)]
  | 5 => [(3, 6, 0, 228), (71, 0, 35, 1028), (80, 1, 77, 1089), (84, 0, 80, 1096), (88, 0, 82, 1104), (92, 0, 96, 1040), (96, 0, 98, 1041), (99, 0, 81, 1100), (109, 1, 84, 1063), (113, 0, 97, 1108), (116, 0, 85, 1066), (123, 9, 0, 1070), (128, 1, 88, 1123), (135, 1, 87, 1120), (139, 1, 86, 1117), (142, 3, 183, 1138), (145, 8, 0, 1126), (148, 7, 0, 1129), (151, 11, 0, 1044)]
  | 6 => [(3, 6, 0, 771), (22, 0, 98, 807), (26, 0, 96, 811), (29, 0, 97, 815), (32, 0, 95, 972), (36, 0, 99, 973), (40, 11, 0, 977), (46, 9, 0, 1661), (51, 8, 0, 1662), (56, 0, 108, 1694), (60, 0, 103, 1698)]
  | 7 => [(1, 6, 0, 552), (51, 4, 94, 1717), (61, 0, 37, 1770), (68, 7, 0, 1737), (77, 0, 42, 1738)]
  | 8 => [(3, 6, 0, 195), (11, 4, 0, 198), (20, 4, 72, 225), (27, 4, 131, 297), (34, 4, 123, 310), (41, 4, 21, 330), (54, 0, 37, 1746), (67, 0, 28, 1750), (71, 0, 115, 1751), (89, 0, 1, 1296), (93, 0, 73, 1300), (103, 0, 117, 1301), (107, 0, 121, 1338), (111, 0, 122, 1361), (114, 0, 5, 1379), (131, 1, 116, 1383), (135, 0, 98, 1378), (140, 0, 97, 1386), (143, 0, 96, 1387), (146, 0, 43, 1388), (158, 0, 74, 1305), (165, 0, 2, 1306), (172, 0, 75, 1314), (175, 0, 76, 1315), (178, 0, 119, 1316), (184, 0, 93, 1333), (191, 0, 118, 1334), (195, 0, 89, 1331), (201, 1, 77, 1320), (208, 1, 14, 1321), (214, 0, 120, 1324), (217, 0, 78, 1328), (221, 0, 79, 1329), (224, 0, 90, 1330), (227, 0, 91, 1332), (230, 0, 132, 1342), (234, 0, 124, 1365)]
  | 9 => [(3, 6, 0, 313), (25, 0, 96, 1236), (31, 0, 97, 1237), (34, 0, 2, 1369), (43, 0, 125, 1370), (47, 0, 98, 1238), (50, 0, 3, 1374), (56, 0, 127, 1232), (60, 0, 9, 1253), (64, 0, 8, 1254), (69, 0, 128, 1240), (73, 0, 130, 1249), (76, 1, 11, 1244), (79, 0, 129, 1245)]
  | 10 => [(3, 6, 0, 300), (18, 0, 96, 1215), (24, 0, 97, 1216), (27, 0, 133, 1346), (31, 0, 136, 1352), (35, 0, 98, 1217), (41, 3, 183, 1360), (44, 0, 2, 1350), (54, 1, 14, 1351), (57, 0, 135, 1218), (60, 0, 9, 1226), (64, 1, 12, 1227), (67, 0, 137, 1222), (70, 0, 138, 1356)]
  | 11 => [(1, 6, 0, 179), (68, 4, 113, 192), (75, 4, 59, 468), (80, 4, 109, 549), (81, 1, 182, 673), (92, 1, 184, 743), (96, 0, 194, 747), (100, 0, 95, 799), (104, 0, 101, 803), (107, 0, 193, 827), (111, 1, 186, 847), (116, 0, 96, 852), (120, 10, 0, 853), (126, 0, 97, 856), (129, 0, 98, 857), (132, 8, 0, 858), (145, 1, 183, 871), (156, 0, 103, 882), (160, 1, 191, 893), (164, 1, 185, 911), (169, 7, 0, 923), (191, 0, 100, 962), (199, 4, 94, 768), (200, 0, 102, 968), (206, 0, 196, 988), (210, 0, 60, 994), (214, 0, 62, 998), (218, 0, 61, 1166), (221, 0, 65, 1171), (225, 0, 197, 1256), (229, 0, 22, 1405), (232, 0, 23, 1406), (236, 0, 195, 1414), (246, 11, 0, 1419), (263, 0, 39, 1427), (267, 0, 40, 1431), (270, 1, 187, 1442), (301, 1, 189, 1453), (307, 1, 192, 1468), (314, 0, 43, 1482), (320, 1, 188, 1471), (327, 0, 199, 1514), (330, 0, 198, 1518), (333, 0, 68, 1522), (337, 0, 69, 1526), (350, 4, 44, 1559), (351, 0, 45, 1582), (357, 0, 56, 1635), (363, 0, 105, 1657), (367, 0, 106, 1670), (372, 0, 107, 1689), (376, 0, 200, 1706), (382, 0, 110, 1712), (386, 0, 201, 1725), (389, 0, 112, 1733), (399, 0, 114, 1742), (403, 0, 111, 1766), (406, 1, 190, 1729), (442, 0, 41, 1456), (457, 4, 21, 993), (458, 0, 29, 1260), (460, 0, 36, 1287), (463, 0, 28, 1291), (467, 0, 115, 1292)]
  | 12 => [(1, 6, 0, 1798), (248, 1, 204, 2164), (254, 1, 207, 2174), (258, 1, 206, 2171), (262, 1, 208, 2160), (268, 0, 213, 2167), (271, 0, 210, 2181), (274, 1, 211, 2185), (277, 0, 212, 2189), (285, 1, 205, 2199), (293, 0, 218, 2212), (314, 0, 227, 2518), (318, 0, 229, 2514), (324, 1, 233, 2323), (327, 0, 232, 2363), (340, 0, 239, 2297), (343, 0, 237, 2341), (346, 1, 243, 2375), (349, 0, 245, 2305), (352, 0, 246, 2326), (355, 0, 248, 2378), (359, 0, 249, 2382), (363, 1, 244, 2386), (366, 0, 251, 2330), (370, 1, 209, 2334), (373, 0, 250, 2337), (376, 1, 255, 2411), (379, 0, 256, 2407), (382, 1, 253, 2400), (386, 0, 231, 2522), (390, 0, 230, 2530), (393, 1, 254, 2414), (399, 0, 257, 2417), (402, 0, 259, 2309), (412, 0, 260, 2301), (430, 1, 262, 2349), (433, 1, 261, 2356), (436, 0, 264, 2367), (439, 0, 263, 2526), (442, 0, 258, 2536), (445, 0, 266, 2421), (449, 0, 247, 2371), (453, 0, 267, 2425), (456, 0, 240, 2544), (459, 0, 241, 2548), (463, 0, 238, 2288), (466, 0, 265, 2510), (469, 0, 268, 2540), (472, 0, 269, 2552), (475, 0, 271, 2437), (478, 0, 272, 2441), (481, 0, 273, 2433), (485, 0, 274, 2560), (488, 0, 228, 2572), (494, 0, 276, 2568), (497, 0, 242, 2284), (503, 0, 270, 2506), (506, 0, 275, 2556), (509, 0, 277, 2564), (512, 0, 279, 2345), (515, 1, 252, 2397), (518, 0, 280, 2403), (521, 0, 281, 2393), (524, 0, 234, 2359), (527, 1, 236, 2317), (532, 1, 235, 2320), (541, 0, 282, 2389), (552, 0, 283, 2313), (555, 0, 284, 2352), (558, 0, 290, 2449), (562, 0, 287, 2453), (565, 0, 288, 2457), (568, 0, 285, 2292), (571, 0, 286, 2429), (574, 0, 289, 2445), (583, 0, 293, 2276), (589, 0, 291, 2280), (595, 0, 292, 2461), (621, 0, 294, 2272), (628, 0, 299, 2268), (631, 0, 295, 2465), (634, 0, 301, 2469), (637, 0, 308, 2498), (640, 0, 303, 2473), (643, 0, 307, 2482), (646, 0, 302, 2477), (651, 0, 304, 2494), (654, 0, 305, 2490), (658, 0, 306, 2486), (662, 0, 278, 2502), (666, 0, 311, 2584), (671, 0, 314, 2597), (674, 0, 316, 2605), (679, 0, 318, 2622), (682, 0, 320, 2614), (686, 0, 319, 2618), (692, 0, 326, 2650), (695, 0, 328, 2654), (698, 0, 329, 2658), (704, 0, 327, 2646), (722, 1, 336, 2714), (728, 0, 335, 2691), (735, 0, 334, 2687), (738, 0, 333, 2678), (741, 1, 339, 2682), (744, 0, 341, 2695), (747, 0, 338, 2699), (750, 1, 340, 2703), (753, 0, 337, 2710), (760, 0, 342, 2674), (764, 0, 343, 2706), (767, 1, 346, 2725), (770, 0, 345, 2721), (773, 0, 349, 2736), (776, 0, 351, 2744), (779, 1, 353, 2752), (782, 1, 355, 2759), (787, 0, 357, 2767), (790, 0, 309, 2771), (793, 0, 358, 2775)]
  | 13 => [(7, 0, 140, 669), (17, 0, 141, 823), (23, 0, 142, 864), (27, 0, 143, 877), (31, 0, 144, 889), (34, 0, 145, 900), (38, 0, 146, 907), (42, 0, 147, 918), (46, 0, 148, 929), (50, 0, 149, 938), (53, 0, 152, 946), (56, 0, 153, 958), (59, 0, 155, 983), (62, 0, 156, 1401), (66, 0, 157, 1410), (69, 0, 158, 1423), (72, 0, 159, 1438), (75, 0, 160, 1448), (78, 0, 161, 1464), (81, 0, 162, 1478), (85, 0, 163, 1486), (88, 0, 164, 1493), (91, 0, 165, 1501), (94, 0, 166, 1510), (97, 0, 167, 1546), (101, 0, 169, 1553), (104, 0, 170, 1630), (107, 0, 171, 1652), (110, 0, 172, 1666), (113, 0, 173, 1677), (116, 0, 174, 1684), (119, 0, 175, 1702), (123, 0, 176, 1721), (126, 0, 177, 1755), (130, 0, 178, 1762), (133, 0, 179, 1774), (136, 0, 180, 1781), (139, 0, 181, 1789), (142, 2, 139, 176), (145, 2, 202, 1795), (146, 1, 365, 664), (151, 0, 214, 2156), (152, 0, 203, 2152), (155, 1, 366, 819), (158, 0, 215, 2177), (161, 1, 367, 861), (164, 0, 216, 2193), (165, 1, 368, 874), (168, 0, 217, 2202), (169, 1, 369, 886), (171, 0, 219, 2208), (172, 1, 370, 897), (175, 0, 220, 2216), (176, 1, 371, 904), (179, 0, 221, 2220), (180, 1, 372, 915), (183, 0, 222, 2224), (184, 1, 373, 926), (187, 0, 223, 2228), (188, 1, 374, 935), (190, 0, 224, 2233), (191, 0, 150, 648), (194, 0, 225, 2237), (195, 0, 151, 652), (198, 0, 226, 2241), (199, 1, 375, 943), (201, 0, 296, 2245), (202, 1, 376, 955), (204, 0, 297, 2256), (205, 0, 154, 656), (208, 0, 298, 2260), (209, 1, 377, 980), (211, 0, 300, 2264), (212, 1, 378, 1398), (215, 0, 310, 2576), (216, 1, 379, 1407), (218, 0, 312, 2580), (219, 1, 380, 1420), (221, 0, 313, 2588), (222, 1, 381, 1435), (224, 0, 315, 2593), (225, 1, 382, 1445), (227, 0, 317, 2601), (228, 1, 383, 1461), (230, 0, 321, 2610), (231, 1, 384, 1475), (233, 0, 322, 2626), (234, 1, 385, 1483), (236, 0, 323, 2630), (237, 1, 386, 1490), (239, 0, 324, 2634), (240, 1, 387, 1498), (242, 0, 325, 2638), (243, 1, 388, 1507), (245, 0, 330, 2642), (246, 1, 389, 1543), (248, 0, 331, 2662), (249, 0, 168, 660), (252, 0, 332, 2666), (253, 1, 390, 1550), (255, 0, 344, 2670), (256, 1, 391, 1627), (258, 0, 347, 2717), (259, 1, 392, 1649), (261, 0, 348, 2728), (262, 1, 393, 1663), (264, 0, 350, 2732), (265, 1, 394, 1674), (267, 0, 352, 2740), (268, 1, 395, 1681), (270, 0, 354, 2748), (271, 1, 396, 1699), (274, 0, 356, 2755), (275, 1, 397, 1718), (277, 0, 359, 2763), (278, 1, 398, 1752), (281, 0, 360, 2779), (282, 1, 399, 1759), (284, 0, 361, 2783), (285, 1, 400, 1771), (287, 0, 362, 2787), (288, 1, 401, 1778), (290, 0, 363, 2792), (291, 1, 402, 1786), (293, 0, 364, 2796)]
  | _ => []
/-- where an exception is made and thrown: pc, class, and the numbers in the pool of the class, the text, the constructor; whether the text's number is wide -/
def mm_tsT : Nat → List (Nat × Nat × Nat × Nat × Nat × Nat) := fun c => match c with
  | 140 => [(14, 0, 85, 87, 89, 0)]
  | 141 => [(26, 0, 85, 114, 89, 0)]
  | 142 => [(24, 0, 85, 139, 89, 0)]
  | 143 => [(35, 0, 85, 148, 89, 0)]
  | 147 => [(4, 0, 85, 167, 89, 0)]
  | 148 => [(11, 0, 85, 171, 89, 0), (33, 1, 173, 175, 177, 0)]
  | 149 => [(12, 2, 178, 180, 182, 0)]
  | 152 => [(43, 0, 85, 189, 89, 0)]
  | 153 => [(26, 0, 85, 195, 89, 0), (45, 1, 173, 197, 177, 0)]
  | 155 => [(16, 0, 85, 204, 89, 0)]
  | 160 => [(21, 2, 178, 299, 182, 1)]
  | 164 => [(65, 0, 85, 318, 89, 1)]
  | 165 => [(32, 0, 85, 323, 89, 1), (52, 1, 173, 325, 177, 1)]
  | 169 => [(9, 1, 173, 348, 177, 1)]
  | 170 => [(12, 2, 178, 355, 182, 1)]
  | 171 => [(24, 0, 85, 361, 89, 1)]
  | 174 => [(19, 2, 178, 370, 182, 1)]
  | 175 => [(39, 0, 85, 380, 89, 1)]
  | 180 => [(43, 1, 173, 430, 177, 1)]
  | 184 => [(11, 0, 85, 432, 89, 1)]
  | 185 => [(9, 0, 85, 434, 89, 1)]
  | 186 => [(9, 2, 178, 436, 182, 1)]
  | 187 => [(12, 2, 178, 438, 182, 1)]
  | 188 => [(12, 2, 178, 440, 182, 1)]
  | 189 => [(12, 2, 178, 445, 182, 1)]
  | 190 => [(7, 1, 173, 447, 177, 1)]
  | 191 => [(34, 2, 178, 449, 182, 1)]
  | 193 => [(12, 2, 178, 438, 182, 1)]
  | 194 => [(9, 1, 173, 451, 177, 1)]
  | 195 => [(12, 2, 178, 453, 182, 1)]
  | 196 => [(9, 1, 173, 455, 177, 1)]
  | 200 => [(9, 2, 178, 471, 182, 1)]
  | _ => []
/-! THE RUN -/
abbrev mm_C : Type := Nat → List Value → mm_H → Option mm_R
/-- so many arguments off the stack, in their order -/
def mm_take : Nat → List Value → List Value → Option (List Value × List Value)
  | 0, st, acc => some (acc, st)
  | n + 1, v :: r, acc => mm_take n r (v :: acc)
  | _ + 1, [], _ => none
def mm_small (r : List Value) : Bool := Nat.ble (r.map fun v => v.category).sum 8
/-- a method of the JDK's: what it leaves on the stack, and the heap -/
def mm_bu (own : Nat) (ins : Instr) (len : Nat) (st : List Value) (h : mm_H) : Option (List Value × mm_H) := match ins with
  | .invokespecial idx => (match mm_lk (mm_ivT own) idx with
    | some f => (match st with
      | .ref _ :: r => bif Nat.beq f.1 6 && (Nat.beq len 3 && mm_small r) then some (r, h) else none
      | _ => none)
    | none => none)
  | .invokestatic idx => (match mm_lk (mm_ivT own) idx with
    | some f => (match f.1 with
      | 7 => (match st with | .int y :: .int x :: r => bif Nat.beq len 3 && mm_small r then some (.int (if y < x then y else x) :: r, h) else none | _ => none)
      | 8 => (match st with | .int y :: .int x :: r => bif Nat.beq len 3 && mm_small r then some (.int (if x < y then y else x) :: r, h) else none | _ => none)
      | 9 => (match st with | .int x :: r => bif Nat.beq len 3 && mm_small r then some (.int (if 0 ≤ x then x else 0 - x) :: r, h) else none | _ => none)
      | 10 => (match st with | .long y :: .long x :: r => bif Nat.beq len 3 && mm_small r then some (.long (if y < x then y else x) :: r, h) else none | _ => none)
      | 11 => (match st with
        | .int n :: .int dp :: .ref a1 :: .int sp :: .ref a0 :: r => (match h.2.2 a0, h.2.2 a1 with
          | .inl (c0, n0, .inl f0), .inl (c1, n1, .inl f1) =>
            bif ((Nat.beq len 3 && mm_small r) && ((Nat.blt a0 h.1 && Nat.blt a1 h.1) && (Nat.beq c0 c1 && (Nat.beq c0 0 || (Nat.beq c0 1 && (List.range n.toNatClampNeg).all (fun i => fits .byte (.int (f0 (sp.toNatClampNeg + i))))))))) && ((!(decide (sp < 0)) && (!(decide (dp < 0)) && !(decide (n < 0)))) && (Nat.ble (sp.toNatClampNeg + n.toNatClampNeg) n0 && Nat.ble (dp.toNatClampNeg + n.toNatClampNeg) n1))
            then some (r, (h.1, h.2.1, va_up h.2.2 a1 (.inl (c1, n1, .inl (va_cpy f0 f1 sp.toNatClampNeg dp.toNatClampNeg n.toNatClampNeg))))) else none
          | _, _ => none)
        | _ => none)
      | _ => none)
    | none => none)
  | _ => none
/-- an end by return -/
def mm_en (ret : Option FieldType) (ins : Instr) (len : Nat) (st : List Value) : Option (Option Value) := match ins with
  | .return_ => (match ret, st with | none, [] => bif Nat.beq len 1 then some none else none | _, _ => none)
  | .ireturn => (match ret, st with
    | some .int, [.int x] => bif Nat.beq len 1 then some (some (.int x)) else none
    | some .boolean, [.int x] => bif Nat.beq len 1 && (x == 0 || x == 1) then some (some (.int x)) else none
    | _, _ => none)
  | .areturn => (match ret, st with
    | some (.object _), [.ref a] => bif Nat.beq len 1 then some (some (.ref a)) else none
    | _, _ => none)
  | _ => none
/-- a call of a method of the claim's own -/
def mm_iv (cl : mm_C) (own : Nat) (ins : Instr) (len : Nat) (st : List Value) (h : mm_H) : Option (mm_R × List Value) := match ins with
  | .invokevirtual idx => (match mm_lk (mm_ivT own) idx with
    | some f => (match mm_take (mm_MT f.2.1).2.2.2.1 st [] with
      | some (as, .ref b :: r) => (match h.2.2 b with
        | .inr o => bif (Nat.beq len 3 && Nat.beq f.1 0) && ((Nat.blt b h.1 && Nat.beq o.1 (mm_MT f.2.1).1) && (Nat.blt o.1 13 && mm_small r)) then (match cl f.2.1 (.ref b :: as) h with | some x => some (x, r) | none => none) else none
        | .inl _ => none)
      | _ => none)
    | none => none)
  | .invokestatic idx => (match mm_lk (mm_ivT own) idx with
    | some f => (match mm_take (mm_MT f.2.1).2.2.2.1 st [] with
      | some (as, r) => bif Nat.beq len 3 && (Nat.beq f.1 1 && mm_small r) then (match cl f.2.1 as h with | some x => some (x, r) | none => none)
        else bif Nat.beq len 3 && (Nat.beq f.1 3 && mm_small r) then (match cl f.2.1 as h with | some (.inl x) => some (.inl x, r) | _ => none) else none
      | none => none)
    | none => none)
  | .invokespecial idx => (match mm_lk (mm_ivT own) idx with
    | some f => (match mm_take (mm_MT f.2.1).2.2.2.1 st [] with
      | some (as, .ref b :: r) => bif Nat.beq len 3 && (Nat.beq f.1 2 && mm_small r) then (match cl f.2.1 (.ref b :: as) h with | some (.inl x) => some (.inl x, r) | _ => none)
        else bif Nat.beq len 3 && (Nat.beq f.1 4 && mm_small r) then (match cl f.2.1 (.ref b :: as) h with | some (.inl x) => some (.inl x, r) | _ => none) else none
      | _ => none)
    | none => none)
  | _ => none
/-- who catches: the first row that covers pc and names the class (by the catch type's number in the law's pool) -/
def mm_ct (E : Nat) : Nat := match E with
  | 0 => 13
  | 1 => 15
  | _ => 21
def mm_hd (E pc : Nat) : List (Nat × Nat × Nat × Nat) → Option Nat
  | [] => none
  | x :: r => bif Nat.ble x.1 pc && Nat.blt pc x.2.1 then (bif Nat.beq x.2.2.2 (mm_ct E) then some x.2.2.1 else mm_hd E pc r) else mm_hd E pc r
/-- a handler's first instruction keeps the exception in a local: which, and its length -/
def mm_hk (ins : Instr × Nat) : Option (Nat × Nat) := match ins.1 with
  | .astore i => bif Nat.beq ins.2 2 then some (i, 2) else none
  | .astore_n k => bif Nat.beq ins.2 1 then some (k, 1) else none
  | _ => none
def mm_forget (lv : mm_L) (i : Nat) : mm_L := lv.filter (fun q => !(q.1 == i) && !(q.1 + 1 == i && q.2.category == 2))
def mm_ex (xt : Nat → Nat × (Nat → Int32)) (cl : mm_C) (mi : Nat) : Nat → Nat → mm_L → List Value → mm_H → Option mm_R
  | 0, _, _, _, _ => none
  | n + 1, pc, lv, st, h => match mm_cd mi pc with
    | none => none
    | some i => match mm_pu (mm_MT mi).2.1 i.1 i.2 pc lv st with
      | some q => mm_ex xt cl mi n q.1 q.2.1 q.2.2 h
      | none => match mm_he (mm_MT mi).1 (Nat.beq (mm_MT mi).2.2.2.2.1 2) xt i.1 i.2 pc st h with
        | some q => mm_ex xt cl mi n q.1 lv q.2.1 q.2.2
        | none => match mm_bu (mm_MT mi).1 i.1 i.2 st h with
          | some q => mm_ex xt cl mi n (pc + 3) lv q.1 q.2
          | none => match mm_en (mm_MT mi).2.2.1 i.1 i.2 st with
            | some v => some (.inl (v, h))
            | none => match mm_lk (mm_tsT mi) pc with
              | some f => bif Nat.blt h.1 1000000 && mm_small st then some (.inr (f.1, (h.1 + 1, h.2.1 + 6, va_up h.2.2 h.1 (.inr (13 + f.1, []))))) else none
              | none => match mm_iv cl (mm_MT mi).1 i.1 i.2 st h with
                | some (.inl (v, h'), r) => mm_ex xt cl mi n (pc + 3) lv (v.toList ++ r) h'
                | some (.inr (E, h'), r) => (match mm_hd E pc (mm_MT mi).2.2.2.2.2 with
                  | none => (match (mm_MT mi).2.2.2.2.2 with | [] => some (.inr (E, h')) | _ :: _ => none)
                  | some hp => (match mm_cd mi hp with
                    | none => none
                    | some i2 => (match mm_hk i2 with
                      | none => none
                      | some k => bif Nat.blt k.1 (mm_MT mi).2.1 then mm_ex xt cl mi n (hp + k.2) (mm_forget lv k.1) [] h' else none)))
                | none => none
def mm_run (xt : Nat → Nat × (Nat → Int32)) (n : Nat) : Nat → mm_C
  | 0 => fun _ _ _ => none
  | d + 1 => fun mi as h => bif Nat.ble (lg_sl as).length (mm_MT mi).2.1 then mm_ex xt (mm_run xt n d) mi n 0 (lv_args 0 as) [] h else none
