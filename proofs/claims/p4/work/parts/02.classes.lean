/-! ===== the classes, their fields, the words ===== -/
def wk_fl : List (String × List (String × String × String × Bool)) := [
  ("EvenSides$Acts", [("EvenSides$Acts", "told", "LEvenSides$Told;", true), ("EvenSides$Acts", "reader", "LEvenSides$Reader;", true), ("EvenSides$Acts", "right", "I", false), ("EvenSides$Acts", "wrong", "I", false), ("EvenSides$Acts", "miles", "I", false), ("EvenSides$Acts", "minutes", "I", false), ("EvenSides$Acts", "place", "I", false), ("EvenSides$Acts", "at", "[I", true), ("EvenSides$Acts", "high", "[I", true), ("EvenSides$Acts", "stonesOn", "[I", true), ("EvenSides$Acts", "pile", "[[I", true), ("EvenSides$Acts", "stonesLie", "[I", true), ("EvenSides$Acts", "sore", "[I", true), ("EvenSides$Acts", "weighs", "[I", true), ("EvenSides$Acts", "goings", "I", false)]),
  ("EvenSides$Alone", [("EvenSides$Alone", "told", "LEvenSides$Told;", true), ("EvenSides$Alone", "many", "I", false), ("EvenSides$Alone", "mostUneven", "I", false), ("EvenSides$Alone", "loads", "[I", true), ("EvenSides$Alone", "high", "[I", true), ("EvenSides$Alone", "orders", "[I", true)]),
  ("EvenSides$Layers", [("EvenSides$Layers", "told", "LEvenSides$Told;", true), ("EvenSides$Layers", "legs", "LEvenSides$Legs;", true), ("EvenSides$Layers", "events", "I", false), ("EvenSides$Layers", "event", "[I", true)]),
  ("EvenSides$Legs", [("EvenSides$Legs", "told", "LEvenSides$Told;", true), ("EvenSides$Legs", "many", "I", false), ("EvenSides$Legs", "far", "I", false), ("EvenSides$Legs", "miles", "[I", true), ("EvenSides$Legs", "onAt", "[I", true), ("EvenSides$Legs", "offAt", "[I", true), ("EvenSides$Legs", "weighs", "[[I", true), ("EvenSides$Legs", "stopOf", "[I", true)]),
  ("EvenSides$Reader", [("EvenSides$Reader", "told", "LEvenSides$Told;", true), ("EvenSides$Reader", "items", "I", false), ("EvenSides$Reader", "word", "[I", true), ("EvenSides$Reader", "number", "[[I", true), ("EvenSides$Reader", "text", "[I", false), ("EvenSides$Reader", "length", "I", false), ("EvenSides$Reader", "next", "I", false), ("EvenSides$Reader", "kind", "I", false), ("EvenSides$Reader", "start", "I", false)]),
  ("EvenSides$Routes", [("EvenSides$Routes", "told", "LEvenSides$Told;", true), ("EvenSides$Routes", "legs", "LEvenSides$Legs;", true), ("EvenSides$Routes", "scales", "LEvenSides$Scales;", true), ("EvenSides$Routes", "least", "I", false), ("EvenSides$Routes", "miles", "I", false), ("EvenSides$Routes", "first", "[I", true), ("EvenSides$Routes", "order", "[I", true)]),
  ("EvenSides$Scales", [("EvenSides$Scales", "told", "LEvenSides$Told;", true), ("EvenSides$Scales", "legs", "LEvenSides$Legs;", true), ("EvenSides$Scales", "least", "I", false), ("EvenSides$Scales", "likeliest", "J", false), ("EvenSides$Scales", "found", "[I", true), ("EvenSides$Scales", "byChance", "Z", false), ("EvenSides$Scales", "certain", "J", false), ("EvenSides$Scales", "row", "[I", true), ("EvenSides$Scales", "hungOn", "[I", true), ("EvenSides$Scales", "bears", "[[I", true), ("EvenSides$Scales", "loadsOn", "[[I", true), ("EvenSides$Scales", "still", "[[I", true), ("EvenSides$Scales", "lifted", "[I", true), ("EvenSides$Scales", "liftedAhead", "[I", true)]),
  ("EvenSides$Told", [("EvenSides$Told", "doors", "I", false), ("EvenSides$Told", "mules", "I", false), ("EvenSides$Told", "loads", "I", false), ("EvenSides$Told", "lined", "I", false), ("EvenSides$Told", "miles", "[[I", true), ("EvenSides$Told", "fords", "[I", true), ("EvenSides$Told", "stonesAt", "[I", true), ("EvenSides$Told", "mule", "[[I", true), ("EvenSides$Told", "load", "[[I", true), ("EvenSides$Told", "numbers", "[I", true), ("EvenSides$Told", "line", "[I", true), ("EvenSides$Told", "text", "[[I", true), ("EvenSides$Told", "bytes", "[I", true)]),
  ("EvenSides", [("EvenSides", "now", "LEvenSides$Told;", true), ("EvenSides", "spare", "LEvenSides$Told;", true), ("EvenSides", "images", "[LEvenSides$Told;", true), ("EvenSides", "kept", "[Z", true), ("EvenSides", "reader", "LEvenSides$Reader;", true), ("EvenSides", "acts", "LEvenSides$Acts;", true), ("EvenSides", "legs", "LEvenSides$Legs;", true), ("EvenSides", "scales", "LEvenSides$Scales;", true), ("EvenSides", "routes", "LEvenSides$Routes;", true), ("EvenSides", "layers", "LEvenSides$Layers;", true), ("EvenSides", "aloneOrders", "LEvenSides$Alone;", true), ("EvenSides", "above", "J", false), ("EvenSides", "below", "J", false)]),
  ("EvenSidesModel", [("EvenSidesModel", "book", "[I", true), ("EvenSidesModel", "images", "[I", true), ("EvenSidesModel", "kept", "[Z", true), ("EvenSidesModel", "aside", "[I", true), ("EvenSidesModel", "above", "J", false), ("EvenSidesModel", "below", "J", false), ("EvenSidesModel", "text", "I", false), ("EvenSidesModel", "at", "I", false), ("EvenSidesModel", "start", "I", false), ("EvenSidesModel", "token", "I", false), ("EvenSidesModel", "value", "I", false), ("EvenSidesModel", "verbs", "[I", true), ("EvenSidesModel", "nums", "[I", true), ("EvenSidesModel", "items", "I", false), ("EvenSidesModel", "whereNow", "[I", true), ("EvenSidesModel", "piles", "[I", true), ("EvenSidesModel", "piled", "[I", true), ("EvenSidesModel", "stonesOn", "[I", true), ("EvenSidesModel", "stonesAt", "[I", true), ("EvenSidesModel", "sore", "[I", true), ("EvenSidesModel", "here", "I", false), ("EvenSidesModel", "goings", "I", false), ("EvenSidesModel", "gone", "I", false), ("EvenSidesModel", "minutes", "I", false), ("EvenSidesModel", "right", "I", false), ("EvenSidesModel", "wrong", "I", false), ("EvenSidesModel", "code", "[I", true), ("EvenSidesModel", "firstLeg", "[I", true), ("EvenSidesModel", "lastLeg", "[I", true), ("EvenSidesModel", "comesOff", "[Z", true), ("EvenSidesModel", "sides", "[I", true), ("EvenSidesModel", "counts", "[I", true), ("EvenSidesModel", "bestCodes", "[I", true), ("EvenSidesModel", "bestWorst", "I", false), ("EvenSidesModel", "row", "[I", true), ("EvenSidesModel", "rowMany", "I", false), ("EvenSidesModel", "doors", "[I", true), ("EvenSidesModel", "bestDoors", "[I", true), ("EvenSidesModel", "bestMiles", "I", false), ("EvenSidesModel", "bestOf", "I", false), ("EvenSidesModel", "hadLine", "[I", true), ("EvenSidesModel", "cost", "[I", true), ("EvenSidesModel", "then", "[I", true), ("EvenSidesModel", "steps", "[I", true), ("EvenSidesModel", "stepsThen", "[I", true), ("EvenSidesModel", "always", "I", false), ("EvenSidesModel", "askers", "[I", true), ("EvenSidesModel", "askerMany", "I", false), ("EvenSidesModel", "hung", "[I", true)])]
def wk_T (q : String × List (String × String × String × Bool)) : u_T := fun k => q.2.getD k ("", "", "", false)
def wk_cl : List vw_C := wk_fl.map fun q => (q.1, wk_T q, q.2.length)
/-- the words that hold in every frame -/
def wk_tbl : List Cond := lw_tbl.filter goodWord
theorem wk_tbl_in {w : Cond} (h : w ∈ wk_tbl) : w ∈ lw_tbl := (List.mem_filter.mp h).1
theorem wk_tbl_good : GoodIn wk_tbl wk_tbl := fun w h => ⟨h, good_of_word (List.mem_filter.mp h).2⟩
/-- the table from each 32nd word on: a look at a word costs no walk from the start -/
def wk_dr : Nat → List Cond
  | 0 => lw_tbl
  | k + 1 => (wk_dr k).drop 32
theorem wk_dr_in {w : Cond} : ∀ k : Nat, w ∈ wk_dr k → w ∈ lw_tbl
  | 0, h => h
  | k + 1, h => wk_dr_in k (List.mem_of_mem_drop h)
/-- a word at its place -/
def wk_has (n : Nat) (w : Cond) : Bool := decide ((wk_dr (n / 32))[n % 32]? = some w) && goodWord w
theorem wk_has_in {n : Nat} {w : Cond} (h : wk_has n w = true) : w ∈ wk_tbl := by
  unfold wk_has at h
  rw [Bool.and_eq_true, decide_eq_true_eq] at h
  exact List.mem_filter.mpr ⟨wk_dr_in _ (List.mem_of_getElem? h.1), h.2⟩
def wk_lp : List (List Nat) := [
  [301, 303, 305, 307, 309, 311, 313, 315, 317, 319, 321, 323, 325, 327, 329],
  [488, 490, 492, 494, 496, 498],
  [467, 469, 471, 473],
  [355, 357, 359, 361, 363, 365, 367, 369],
  [251, 253, 255, 257, 259, 261, 263, 265, 267],
  [442, 444, 446, 448, 450, 452, 454],
  [397, 399, 401, 403, 405, 407, 409, 411, 413, 415, 417, 419, 421, 423],
  [200, 202, 204, 206, 208, 210, 212, 214, 216, 218, 220, 222, 224],
  [514, 516, 518, 520, 522, 524, 526, 528, 530, 532, 534, 536, 538],
  [1315, 1317, 1319, 1321, 1323, 1325, 1327, 1329, 1331, 1333, 1335, 1337, 1339, 1341, 1343, 1345, 1347, 1349, 1351, 1353, 1355, 1357, 1359, 1361, 1363, 1365, 1367, 1369, 1371, 1373, 1375, 1377, 1379, 1381, 1383, 1385, 1387, 1389, 1391, 1393, 1395, 1397, 1399, 1401, 1403, 1405, 1407, 1409, 1411]]
def wk_lay (ci k : Nat) : Bool := match wk_fl[ci]?, (wk_lp[ci]?).bind (fun r => r[k]?) with
  | some q, some n => wk_has n (u_lay q.1 (wk_T q) k)
  | _, _ => false
set_option maxRecDepth 100000 in
theorem wk_lay_ok : ((List.range 10).all fun ci => (List.range (match wk_fl[ci]? with | some q => q.2.length | none => 0)).all fun k => wk_lay ci k) = true := by decide +kernel
theorem wk_len10 : wk_fl.length = 10 := by decide +kernel
theorem wk_cl_at {ci : Nat} {r : vw_C} (h : wk_cl[ci]? = some r) : ci < 10 ∧ ∃ q, wk_fl[ci]? = some q ∧ r = (q.1, wk_T q, q.2.length) := by
  unfold wk_cl at h
  rw [List.getElem?_map] at h
  cases hq : wk_fl[ci]? with
  | none => rw [hq] at h; cases h
  | some q =>
    rw [hq] at h
    cases h
    have := (List.getElem?_eq_some_iff.mp hq).1
    rw [wk_len10] at this
    exact ⟨this, q, rfl, rfl⟩
theorem wk_cl_in {ci : Nat} {r : vw_C} (h : wk_cl[ci]? = some r) : ∀ w ∈ u_ws r.1 r.2.1 r.2.2, w ∈ wk_tbl := by
  obtain ⟨hc, q, hq, rfl⟩ := wk_cl_at h
  intro w hw
  obtain ⟨k, hk, rfl⟩ := List.mem_map.mp hw
  have h1 := List.all_eq_true.mp wk_lay_ok ci (List.mem_range.mpr hc)
  rw [hq] at h1
  have h2 := List.all_eq_true.mp h1 k (List.mem_range.mpr (List.mem_range.mp hk))
  unfold wk_lay at h2
  rw [hq] at h2
  split at h2
  · rename_i q' n e1 e2
    cases e1
    exact wk_has_in h2
  · cases h2
/-- a field's type -/
def wk_ft (ci k : Nat) : FieldType := match wk_fl[ci]? with
  | some q => (parseFieldDescriptor (wk_T q k).2.2.1).getD .int
  | none => .int
def wk_tyc : FieldType → Nat
  | .int => 0
  | .boolean => 1
  | .long => 2
  | .object _ => 3
  | .array _ => 3
  | _ => 9
def wk_fc : List (List Nat) := [
  [3, 3, 0, 0, 0, 0, 0, 3, 3, 3, 3, 3, 3, 3, 0],
  [3, 0, 0, 3, 3, 3],
  [3, 3, 0, 3],
  [3, 0, 0, 3, 3, 3, 3, 3],
  [3, 0, 3, 3, 3, 0, 0, 0, 0],
  [3, 3, 3, 0, 0, 3, 3],
  [3, 3, 0, 2, 3, 1, 2, 3, 3, 3, 3, 3, 3, 3],
  [0, 0, 0, 0, 3, 3, 3, 3, 3, 3, 3, 3, 3],
  [3, 3, 3, 3, 3, 3, 3, 3, 3, 3, 3, 2, 2],
  [3, 3, 3, 3, 2, 2, 0, 0, 0, 0, 0, 3, 3, 0, 3, 3, 3, 3, 3, 3, 0, 0, 0, 0, 0, 0, 3, 3, 3, 3, 3, 3, 3, 0, 3, 0, 3, 3, 0, 0, 3, 3, 3, 3, 3, 0, 3, 0, 3]]
theorem wk_ft_ok : ((List.range 10).all fun ci => (List.range (match wk_fl[ci]? with | some q => q.2.length | none => 0)).all fun k => match wk_fl[ci]?, (wk_fc[ci]?).bind (fun r => r[k]?) with | some q, some n => (parseFieldDescriptor (wk_T q k).2.2.1).isSome && Nat.beq (wk_tyc (wk_ft ci k)) n | _, _ => false) = true := by decide +kernel
theorem wk_nm_ok : (wk_fl.all fun q => (List.range q.2.length).all fun a => (List.range q.2.length).all fun b => Nat.beq a b || !decide ((wk_T q a).2.1 = (wk_T q b).2.1)) = true := by decide +kernel
theorem wk_ft_at {ci k : Nat} {q : String × List (String × String × String × Bool)} (hq : wk_fl[ci]? = some q) (hk : k < q.2.length) : parseFieldDescriptor (wk_T q k).2.2.1 = some (wk_ft ci k) ∧ ((wk_fc[ci]?).bind fun r => r[k]?) = some (wk_tyc (wk_ft ci k)) := by
  have hc : ci < 10 := by
    have := (List.getElem?_eq_some_iff.mp hq).1
    rw [wk_len10] at this
    exact this
  have h1 := List.all_eq_true.mp wk_ft_ok ci (List.mem_range.mpr hc)
  rw [hq] at h1
  have h2 := List.all_eq_true.mp h1 k (List.mem_range.mpr hk)
  split at h2
  · rename_i q' n e1 e2
    cases e1
    rw [Bool.and_eq_true] at h2
    obtain ⟨ty, hty⟩ := Option.isSome_iff_exists.mp h2.1
    refine ⟨?_, by rw [e2, Nat.eq_of_beq_eq_true h2.2]⟩
    rw [hty]
    unfold wk_ft
    rw [hq]
    simp only [hty, Option.getD_some]
  · cases h2
theorem wk_nm_at {ci : Nat} {q : String × List (String × String × String × Bool)} (hq : wk_fl[ci]? = some q) : ∀ a, a < q.2.length → ∀ b, b < q.2.length → a ≠ b → (wk_T q a).2.1 ≠ (wk_T q b).2.1 := by
  intro a ha b hb hab
  have h1 := List.all_eq_true.mp wk_nm_ok q (List.mem_of_getElem? hq)
  have h2 := List.all_eq_true.mp (List.all_eq_true.mp h1 a (List.mem_range.mpr ha)) b (List.mem_range.mpr hb)
  rw [Bool.or_eq_true] at h2
  rcases h2 with h2 | h2
  · exact absurd (Nat.eq_of_beq_eq_true h2) hab
  · simpa using h2
