/-! ===== the second engine's run is sound; calls by contract, or by running ===== -/
theorem kd_row_r {g : kc_G} {d : Nat} {M : wk_M} {Q : Option kc_V → kc_H → Prop} {ty : kd_T} {h0 : kc_H} {ρ0 : Nat → Nat} {n0 : Nat} {go : kd_Go} {call : kd_Cl} {ret : kd_R} {pc op a b c len : Nat} {l : List Nat} {iv : kd_I} {n : Nat} {AL AS : List kd_V} {F : kd_F} {W : kd_W} {i : Instr} {nn : Nat} {x : Nat × Nat × Int} {wd : List Nat} {t : Nat} {q : Int} (IH : kd_ih g d M Q ty h0 ρ0 n0 go) (hcall : kd_good g d ty h0 call) (hret : kd_rgood Q ty h0 ρ0 n0 ret) (hf : wk_fetch M pc = some (pc, i, nn, x, wd, t, q)) (his : kd_isx M pc op a b c len l i x = true) (h : kd_row ty (wk_Ml M) call ret go (pc, op, a, b, c, len, l) iv n AL AS F W = true) : kd_says g d M Q ty h0 ρ0 n0 pc iv n AL AS F W := by
  by_cases hop : op ≤ 58
  · exact kd_row58 IH hcall hf his h hop
  · have nb : ∀ k, k ≤ 58 → Nat.ble op k = false := fun k hk => by
      cases hb : Nat.ble op k with
      | true => exact absurd (Nat.le_trans (Nat.le_of_ble_eq_true hb) hk) hop
      | false => rfl
    have ne : ∀ k, k ≤ 58 → Nat.beq op k = false := fun k hk => by
      cases hb : Nat.beq op k with
      | true => exact absurd (by rw [Nat.eq_of_beq_eq_true hb]; exact hk) hop
      | false => rfl
    unfold kd_isx at his
    rw [nb 9 (by decide), nb 15 (by decide), nb 21 (by decide), ne 35 (by decide), ne 40 (by decide), ne 45 (by decide), nb 45 (by decide), nb 47 (by decide), nb 53 (by decide), ne 54 (by decide), nb 58 (by decide)] at his
    unfold kd_row at h
    simp only [nb 9 (by decide), nb 21 (by decide), nb 31 (by decide), nb 40 (by decide), nb 45 (by decide), nb 53 (by decide), ne 54 (by decide), ne 55 (by decide), nb 58 (by decide), cond_false] at h
    exact kd_q59 hret hf his h
theorem kd_fetch_r {X : List (List kd_X)} {pc : Nat} {r : kd_X} (h : kd_fetch X pc = some r) : r.1 = pc ∧ ∃ s ∈ X, r ∈ s := by
  unfold kd_fetch at h
  cases hr : wk_at X (pc / 16) with
  | none => rw [hr] at h; cases h
  | some s =>
    rw [hr] at h
    rw [wk_at_eq] at hr
    have h : kd_fnd s pc = some r := h
    obtain ⟨h2, h3⟩ := kd_fnd_r h
    exact ⟨h2, s, List.mem_of_getElem? hr, h3⟩
theorem kd_go_r {g : kc_G} {d : Nat} {M : wk_M} {Q : Option kc_V → kc_H → Prop} {ty : kd_T} {h0 : kc_H} {ρ0 : Nat → Nat} {n0 : Nat} {call : kd_Cl} {ret : kd_R} {cut : kd_Cu} {X : List (List kd_X)} (hX : kd_isA2 M X = true) (hcall : kd_good g d ty h0 call) (hret : kd_rgood Q ty h0 ρ0 n0 ret) (hcut : ∀ pc iv n AL AS F W, cut pc iv n AL AS F W = true → kd_says g d M Q ty h0 ρ0 n0 pc iv n AL AS F W) : ∀ fuel, kd_ih g d M Q ty h0 ρ0 n0 (kd_go ty X (wk_Ml M) cut call ret fuel) := by
  intro fuel
  induction fuel with
  | zero => intro pc iv n AL AS F W h; cases h
  | succ fuel ih =>
    intro pc iv n AL AS F W h
    have h : (bif kd_ct0 AS (cut pc iv n AL AS F W) then true else match kd_fetch X pc with
      | none => false
      | some x => kd_rowf ty (wk_Ml M) call ret (kd_go ty X (wk_Ml M) cut call ret fuel) x iv n AL AS F W) = true := h
    simp only [kd_rowf_eq] at h
    rcases kd_bif h with ⟨hc, -⟩ | ⟨-, hx⟩
    · exact hcut _ _ _ _ _ _ _ (kd_ct0_r hc)
    · clear h
      cases hr : kd_fetch X pc with
      | none => rw [hr] at hx; cases hx
      | some r =>
        rw [hr] at hx
        obtain ⟨e, s, hs, hrs⟩ := kd_fetch_r hr
        obtain ⟨p, op, a, b, c, len, l⟩ := r
        simp only at e
        subst e
        have his : kd_is M (p, op, a, b, c, len, l) = true := List.all_eq_true.mp (List.all_eq_true.mp hX s hs) _ hrs
        unfold kd_is at his
        simp only at his
        cases hf : wk_fetch M p with
        | none => rw [hf] at his; cases his
        | some y =>
          obtain ⟨p2, i, nn, x, wd, t, q⟩ := y
          rw [hf] at his
          simp only [Bool.and_eq_true] at his
          obtain rfl := Nat.eq_of_beq_eq_true his.1
          exact kd_row_r ih hcall hret hf his.2 hx
/-- the locals of a call -/
def kd_argl : List kd_V → Nat → (List kd_V → Bool) → Bool
  | [], m, k => k (List.replicate m (9, 0, 0))
  | (t, a, b) :: av, m, k => bif kd_lj t then (bif Nat.ble 2 m then wk_fN (m - 2) (fun m => kd_argl av m (fun r => k ((t, a, b) :: (9, 0, 0) :: r))) else false)
    else bif kd_c1 t then (bif Nat.ble 1 m then wk_fN (m - 1) (fun m => kd_argl av m (fun r => k ((t, a, b) :: r))) else false)
    else false
theorem kd_argl_r {n : Nat} {ρ : Nat → Nat} : ∀ (av : List kd_V) (xs : List kc_V) (m : Nat) (k : List kd_V → Bool), kd_argl av m k = true → wk_f2 (kd_g n ρ) av xs → ∃ AL, k AL = true ∧ wk_cat (xs.map kc_e) ≤ m ∧ ∀ (base i : Nat) (v : kd_V), AL[i]? = some v → kd_kn v.1 = true → ∃ x, kc_get (kc_args base xs) (base + i) = some x ∧ kd_g n ρ v x
  | [], [], m, k, h, _ => ⟨_, h, Nat.zero_le _, fun base i v hv hk => by
    rw [List.getElem?_replicate] at hv
    split at hv
    · cases hv; cases hk
    · cases hv⟩
  | [], _ :: _, _, _, _, h => h.elim
  | _ :: _, [], _, _, _, h => h.elim
  | (t, a, b) :: av, x :: xs, m, k, h, hx => by
    have h : (bif kd_lj t then (bif Nat.ble 2 m then wk_fN (m - 2) (fun m => kd_argl av m (fun r => k ((t, a, b) :: (9, 0, 0) :: r))) else false)
    else bif kd_c1 t then (bif Nat.ble 1 m then wk_fN (m - 1) (fun m => kd_argl av m (fun r => k ((t, a, b) :: r))) else false)
    else false) = true := h
    rcases kd_bif h with ⟨c1, h1⟩ | ⟨-, h1⟩
    · obtain ⟨c0, h2⟩ := kd_bt h1
      have c0 := Nat.le_of_ble_eq_true c0
      rw [wk_fN_eq] at h2
      obtain ⟨AL, k1, k2, k3⟩ := kd_argl_r av xs (m - 2) _ h2 hx.2
      obtain ⟨z, rfl⟩ := kd_lj_r (v := (t, a, b)) c1 hx.1
      refine ⟨_, k1, by show 2 + wk_cat (xs.map kc_e) ≤ _; omega, fun base i v hv hk => ?_⟩
      match i, hv with
      | 0, hv =>
        cases hv
        refine ⟨_, ?_, hx.1⟩
        show (if Nat.beq base (base + 0) then some (Sum.inr (Sum.inl z)) else _) = _
        rw [Nat.add_zero, kc_beq, if_pos rfl]
      | 1, hv => cases hv; cases hk
      | i + 2, hv =>
        obtain ⟨y, e1, e2⟩ := k3 (base + 2) i v hv hk
        refine ⟨y, ?_, e2⟩
        show (if Nat.beq base (base + (i + 2)) then some (Sum.inr (Sum.inl z)) else kc_get (kc_args (base + 2) xs) (base + (i + 2))) = _
        have hb : Nat.beq base (base + (i + 2)) = false := by
          cases hb : Nat.beq base (base + (i + 2)) with
          | true => have := Nat.eq_of_beq_eq_true hb; omega
          | false => rfl
        rw [hb, if_neg (by decide), show base + (i + 2) = base + 2 + i by omega]
        exact e1
    · obtain ⟨c1, h2⟩ := kd_bt h1
      obtain ⟨c0, h3⟩ := kd_bt h2
      have c0 := Nat.le_of_ble_eq_true c0
      rw [wk_fN_eq] at h3
      obtain ⟨AL, k1, k2, k3⟩ := kd_argl_r av xs (m - 1) _ h3 hx.2
      have c2 := kd_c1_r (v := (t, a, b)) c1 hx.1
      refine ⟨_, k1, ?_, fun base i v hv hk => ?_⟩
      · show (if wk_c2 (kc_e x) then 2 else 1) + wk_cat (xs.map kc_e) ≤ _
        rw [kc_c2_e, c2.2]
        show 1 + _ ≤ _
        omega
      · match i, hv with
        | 0, hv =>
          cases hv
          refine ⟨_, ?_, hx.1⟩
          show (if Nat.beq base (base + 0) then some x else _) = _
          rw [Nat.add_zero, kc_beq, if_pos rfl]
        | i + 1, hv =>
          obtain ⟨y, e1, e2⟩ := k3 (base + 1) i v hv hk
          refine ⟨y, ?_, e2⟩
          show (if Nat.beq base (base + (i + 1)) then some x else kc_get (kc_args (if kc_c2 x then base + 2 else base + 1) xs) (base + (i + 1))) = _
          have hb : Nat.beq base (base + (i + 1)) = false := by
            cases hb : Nat.beq base (base + (i + 1)) with
            | true => have := Nat.eq_of_beq_eq_true hb; omega
            | false => rfl
          rw [hb, if_neg (by decide), c2.2, if_neg (by decide), show base + (i + 1) = base + 1 + i by omega]
          exact e1
/-- the methods' rows in numbers, held against the code -/
def kd_xok (xt : Nat → Option (List (List kd_X))) : Prop := ∀ id X, xt id = some X → ∃ M, wk_mt id = some M ∧ wk_Mk M = 0 ∧ wk_Ms M = 0 ∧ kd_isA2 M X = true
def kd_nL (id : Nat) : Nat := match wk_mt id with
  | some M => wk_Ml M
  | none => 0
/-- a call by running -/
noncomputable def kd_inl (ty : kd_T) (xt : Nat → Option (List (List kd_X))) (call : kd_Cl) (fuel : Nat) : kd_Cl := fun id av iv n F W k => match xt id with
  | some X => wk_fN (kd_nL id) fun nL => kd_argl av nL (fun AL => kd_go ty X nL (fun _ _ _ _ _ _ _ => false) call k fuel 0 iv n AL [] F W)
  | none => false
theorem kd_inl_r {g : kc_G} {d : Nat} {ty : kd_T} {h0 : kc_H} {xt : Nat → Option (List (List kd_X))} {call : kd_Cl} {fuel : Nat} (hg : kc_ok g) (hxt : kd_xok xt) (hcall : kd_good g d ty h0 call) : kd_good g (d + 1) ty h0 (kd_inl ty xt call fuel) := by
  intro id av iv n F W k h ρ xs hh hb hv hF hw hfr
  unfold kd_inl at h
  cases hx : xt id with
  | none => rw [hx] at h; cases h
  | some X =>
    rw [hx] at h
    obtain ⟨M, m1, m2, m3, m4⟩ := hxt id X hx
    simp only [wk_fN_eq] at h
    have e : kd_nL id = wk_Ml M := by unfold kd_nL; rw [m1]
    rw [e] at h
    obtain ⟨AL, k1, k2, k3⟩ := kd_argl_r av xs _ _ h hv
    refine kc_Con_new hg m1 m2 m3 k2 (kd_go_r (ρ0 := ρ) (n0 := n) m4 hcall (fun iv' n' rv F' W' hk hn ρ' xr h' ha hb' hr hF' hw' hfr' => ⟨ρ', iv', n', rv, F', W', ha, hn, hb', hr, hF', hw', hfr', hk⟩) (fun _ _ _ _ _ _ _ q => by cases q) fuel _ _ _ _ _ _ _ k1 (Nat.le_refl _) ρ _ [] hh kd_ag_rf hb (fun i v hi hk => ?_) trivial hF hw hfr)
    obtain ⟨y, e1, e2⟩ := k3 0 i v hi hk
    rw [Nat.zero_add] at e1
    exact ⟨y, e1, e2⟩
/-- a contract: arguments, what is known of places, the ends: what is returned, what is known then, what was written -/
abbrev kd_P : Type := Option kd_V × kd_F × kd_W
abbrev kd_Tc : Type := List kd_V × kd_F × List kd_P
def kd_hold (g : kc_G) (d : Nat) (ty : kd_T) (id : Nat) (T : kd_Tc) : Prop := ∀ (xs : List kc_V) (h : kc_H), kd_wt ty h → wk_f2 (kd_g 0 (fun _ => 0)) T.1 xs → kd_gF 0 (fun _ => 0) T.2.1 h → kc_Con g d id xs h (fun xr h' => ∃ p ∈ T.2.2, kd_rv 0 (fun _ => 0) p.1 xr ∧ kd_gF 0 (fun _ => 0) p.2.1 h' ∧ kd_wt ty h' ∧ kd_fr p.2.2 h h')
theorem kd_hold_le {g : kc_G} {d d' : Nat} {ty : kd_T} {id : Nat} {T : kd_Tc} (h : kd_hold g d ty id T) (hd : d ≤ d') : kd_hold g d' ty id T := fun xs hh h1 h2 h3 => kc_Con_le (h xs hh h1 h2 h3) hd
def kd_leL (iv : kd_I) (n : Nat) : List kd_V → List kd_V → Bool
  | [], [] => true
  | v :: l, w :: m => kd_le iv n v w && kd_leL iv n l m
  | _, _ => false
def kd_ev (ty : kd_T) (F : kd_F) (c i : Nat) : Option kd_V := match kd_fa F c i with
  | some v => some v
  | none => kd_rn (ty c) i
def kd_leF (ty : kd_T) (iv : kd_I) (n : Nat) (F : kd_F) : kd_F → Bool
  | [] => true
  | (c, i, w) :: r => (match kd_ev ty F c i with
    | some v => kd_le iv n v w
    | none => false) && kd_leF ty iv n F r
def kd_app : kd_F → kd_F → (kd_F → Bool) → Bool
  | [], F, k => k F
  | q :: r, F, k => kd_app r F (fun F => k (q :: F))
def kd_endk (rv : Option kd_V) (iv : kd_I) (n : Nat) (F : kd_F) (W : kd_W) (k : kd_R) : Bool := match rv with
  | none => k iv n none F W
  | some v => kd_nm iv n v (fun iv n v => k iv n (some v) F W)
def kd_ends (iv : kd_I) (n : Nat) (F : kd_F) (W : kd_W) (k : kd_R) : List kd_P → Bool
  | [] => true
  | (rv, fs, ws) :: r => (kd_klW ws F fun F1 => kd_awW ws W fun W1 => kd_app fs F1 fun F2 => kd_endk rv iv n F2 W1 k) && kd_ends iv n F W k r
def kd_try (ty : kd_T) (av : List kd_V) (iv : kd_I) (n : Nat) (F : kd_F) (W : kd_W) (k : kd_R) : List kd_Tc → Option Bool
  | [] => none
  | (as, fs, ps) :: r => bif kd_leL iv n av as && kd_leF ty iv n F fs then some (kd_ends iv n F W k ps) else kd_try ty av iv n F W k r
noncomputable def kd_kt (ty : kd_T) (ct : Nat → List kd_Tc) (k : kd_Cl) : kd_Cl := fun id av iv n F W r => match kd_try ty av iv n F W r (ct id) with
  | some b => b
  | none => k id av iv n F W r
section KDT
variable {g : kc_G} {d : Nat} {ty : kd_T} {h0 : kc_H} {n : Nat} {ρ : Nat → Nat} {iv : kd_I} {F : kd_F} {W : kd_W} {h : kc_H}
theorem kd_leL_r (hb : kd_bx ρ iv n) : ∀ (l m : List kd_V) (xs : List kc_V), kd_leL iv n l m = true → wk_f2 (kd_g n ρ) l xs → wk_f2 (kd_g 0 (fun _ => 0)) m xs
  | [], [], [], _, _ => trivial
  | [], [], _ :: _, _, h => h.elim
  | [], _ :: _, _, h, _ => by cases h
  | _ :: _, [], _, h, _ => by cases h
  | _ :: _, _ :: _, [], _, h => h.elim
  | v :: l, w :: m, x :: xs, h, hx => by
    have h : (kd_le iv n v w && kd_leL iv n l m) = true := h
    rw [Bool.and_eq_true] at h
    exact ⟨kd_le_r h.1 hb hx.1, kd_leL_r hb l m xs h.2 hx.2⟩
theorem kd_ev_r {c i : Nat} {v : kd_V} (he : kd_ev ty F c i = some v) (hF : kd_gF n ρ F h) (hw : kd_wt ty h) : kd_g n ρ v (h c i) := by
  unfold kd_ev at he
  cases hf : kd_fa F c i with
  | some u =>
    rw [hf] at he
    cases he
    exact hF _ (kd_fa_r F c i v hf)
  | none =>
    rw [hf] at he
    exact kd_g0 (hw c i v he)
theorem kd_leF_r (hb : kd_bx ρ iv n) (hF : kd_gF n ρ F h) (hw : kd_wt ty h) : ∀ (G : kd_F), kd_leF ty iv n F G = true → kd_gF 0 (fun _ => 0) G h
  | [], _, q, hq => by cases hq
  | (c, i, w) :: r, hk, q, hq => by
    have hk : ((match kd_ev ty F c i with
      | some v => kd_le iv n v w
      | none => false) && kd_leF ty iv n F r) = true := hk
    rw [Bool.and_eq_true] at hk
    rcases List.mem_cons.mp hq with rfl | hq
    · have h1 := hk.1
      cases he : kd_ev ty F c i with
      | none => rw [he] at h1; cases h1
      | some v =>
        rw [he] at h1
        exact kd_le_r h1 hb (kd_ev_r he hF hw)
    · exact kd_leF_r hb hF hw r hk.2 q hq
theorem kd_app_r : ∀ (G F : kd_F) (k : kd_F → Bool), kd_app G F k = true → k (G ++ F) = true
  | [], _, _, h => h
  | _ :: r, F, _, h => kd_app_r r F _ h
theorem kd_kt_r {ct : Nat → List kd_Tc} {k : kd_Cl} (hk : kd_good g d ty h0 k) (hct : ∀ id, ∀ T ∈ ct id, kd_hold g d ty id T) : kd_good g d ty h0 (kd_kt ty ct k) := by
  intro id av iv n F W r hh ρ xs h hb hv hF hw hfr
  unfold kd_kt at hh
  cases ht : kd_try ty av iv n F W r (ct id) with
  | none =>
    rw [ht] at hh
    exact hk id av iv n F W r hh ρ xs h hb hv hF hw hfr
  | some b =>
    rw [ht] at hh
    have hh : b = true := hh
    subst hh
    have key : ∀ (Ts : List kd_Tc), kd_try ty av iv n F W r Ts = some true → ∃ T ∈ Ts, kd_leL iv n av T.1 = true ∧ kd_leF ty iv n F T.2.1 = true ∧ kd_ends iv n F W r T.2.2 = true := by
      intro Ts
      induction Ts with
      | nil => intro q; cases q
      | cons T Ts ih =>
        obtain ⟨as, fs, ps⟩ := T
        intro q
        have q : (bif kd_leL iv n av as && kd_leF ty iv n F fs then some (kd_ends iv n F W r ps) else kd_try ty av iv n F W r Ts) = some true := q
        cases hc : kd_leL iv n av as && kd_leF ty iv n F fs with
        | true =>
          rw [hc] at q
          rw [Bool.and_eq_true] at hc
          exact ⟨_, List.mem_cons_self, hc.1, hc.2, Option.some.inj q⟩
        | false =>
          rw [hc] at q
          obtain ⟨T, t1, t2⟩ := ih q
          exact ⟨T, List.mem_cons_of_mem _ t1, t2⟩
    obtain ⟨⟨as, fs, ps⟩, t1, t2, t3, t4⟩ := key _ ht
    refine kc_Con_mono (hct id _ t1 xs h hw (kd_leL_r hb _ _ _ t2 hv) (kd_leF_r hb hF hw _ t3)) (fun xr h' hq => ?_)
    obtain ⟨⟨rv, gs, ws⟩, p1, p2, p3, p4, p5⟩ := hq
    simp only at p2 p3 p5 p1 t4
    have ends : ∀ (ps : List kd_P), kd_ends iv n F W r ps = true → (rv, gs, ws) ∈ ps → (kd_klW ws F fun F1 => kd_awW ws W fun W1 => kd_app gs F1 fun F2 => kd_endk rv iv n F2 W1 r) = true := by
      intro ps
      induction ps with
      | nil => intro _ q; cases q
      | cons p ps ih =>
        obtain ⟨rv2, gs2, ws2⟩ := p
        intro q hm
        have q : ((kd_klW ws2 F fun F1 => kd_awW ws2 W fun W1 => kd_app gs2 F1 fun F2 => kd_endk rv2 iv n F2 W1 r) && kd_ends iv n F W r ps) = true := q
        rw [Bool.and_eq_true] at q
        rcases List.mem_cons.mp hm with e | hm
        · cases e
          exact q.1
        · exact ih q.2 hm
    have q := ends ps t4 p1
    obtain ⟨F1, f1, q⟩ := kd_klW_r ws F _ q
    obtain ⟨W1, q, w1, w2⟩ := kd_awW_r ws W _ q
    have q := kd_app_r gs F1 _ q
    have hF2 : kd_gF n ρ (gs ++ F1) h' := fun s hs => by
      rcases List.mem_append.mp hs with hs | hs
      · exact kd_g0 (p3 s hs)
      · obtain ⟨s1, s2⟩ := f1 s hs
        have e : h' s.1 s.2.1 = h s.1 s.2.1 := p5 s.1 s.2.1 (fun z hz => s2 z hz)
        rw [e]
        exact hF s s1
    have hfr2 : kd_fr W1 h0 h' := kd_fr_step hfr w1 (fun c i hne => by
      have : ∃ z ∈ ws, kd_inr c z.1 z.2.1 i z.2.2.1 z.2.2.2 = true := Classical.byContradiction fun hno => hne (p5 c i (fun z hz => by
        cases hi : kd_inr c z.1 z.2.1 i z.2.2.1 z.2.2.2 with
        | true => exact absurd ⟨z, hz, hi⟩ hno
        | false => rfl))
      obtain ⟨z, z1, z2⟩ := this
      exact w2 z z1 c i z2)
    cases rv with
    | none =>
      cases xr with
      | none => exact ⟨ρ, iv, n, none, _, W1, kd_ag_rf, Nat.le_refl _, hb, trivial, hF2, p4, hfr2, q⟩
      | some _ => exact p2.elim
    | some v =>
      cases xr with
      | none => exact p2.elim
      | some y =>
        have q : kd_nm iv n v (fun iv n v => r iv n (some v) (gs ++ F1) W1) = true := q
        obtain ⟨ρ', iv', n', v', a1, a2, a3, a4, a5⟩ := kd_nm_r q hb (kd_g0 p2)
        exact ⟨ρ', iv', n', some v', _, W1, a1, a2, a3, a4, kd_gF_ag hF2 a1 a2, p4, hfr2, a5⟩
end KDT
/-- calls by contract at every depth, else by running -/
noncomputable def kd_call (ty : kd_T) (xt : Nat → Option (List (List kd_X))) (ct : Nat → List kd_Tc) (fuel : Nat) : Nat → kd_Cl
  | 0 => kd_kt ty ct (fun _ _ _ _ _ _ _ => false)
  | d + 1 => kd_kt ty ct (kd_inl ty xt (kd_call ty xt ct fuel d) fuel)
theorem kd_call_r {g : kc_G} {d0 : Nat} {ty : kd_T} {h0 : kc_H} {xt : Nat → Option (List (List kd_X))} {ct : Nat → List kd_Tc} {fuel : Nat} (hg : kc_ok g) (hxt : kd_xok xt) (hct : ∀ id, ∀ T ∈ ct id, kd_hold g d0 ty id T) : ∀ d, kd_good g (d0 + d) ty h0 (kd_call ty xt ct fuel d)
  | 0 => kd_kt_r (fun _ _ _ _ _ _ _ h => by cases h) hct
  | d + 1 => kd_kt_r (kd_inl_r hg hxt (kd_call_r hg hxt hct d)) (fun id T hT => kd_hold_le (hct id T hT) (by omega))
