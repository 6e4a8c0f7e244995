/-! ===== type, image, from, day: all told alike ===== -/
def fu_tyB (B : Nat → Int32) (x n : Nat) (c : Nat) (v : Int64) : Nat → Int32 := fun j => if j = 160 + x then Int32.ofNat (c + n) else if 170 + 240 * x + c ≤ j ∧ j < 170 + 240 * x + c + n then kq_c v (n - 1 - (j - (170 + 240 * x + c))) else B j
theorem fu_pcx : ∀ j, j < 650 → (!(fu_t j) || ((Nat.blt j 160 || (Nat.beq j 160 || (Nat.beq j 161 || Nat.ble 170 j))) && ((!(Nat.beq (fu_p j).1 30) || (Nat.beq j (160 + (fu_p j).2))) && (!(Nat.beq (fu_p j).1 28 || Nat.beq (fu_p j).1 29) || (Nat.beq j (170 + 240 * ((fu_p j).1 - 28) + (fu_p j).2) && Nat.blt (fu_p j).2 240))))) = true := by decide +kernel
theorem fu_pc {j : Nat} (hj : j < 650) (ht : fu_t j = true) : ((fu_p j).1 = 30 → j = 160 + (fu_p j).2) ∧ ((fu_p j).1 = 28 ∨ (fu_p j).1 = 29 → j = 170 + 240 * ((fu_p j).1 - 28) + (fu_p j).2 ∧ (fu_p j).2 < 240) := by
  have h := fu_pcx j hj
  rw [ht] at h
  simp only [Bool.not_true, Bool.false_or, Bool.and_eq_true] at h
  obtain ⟨-, h1, h2⟩ := h
  refine ⟨fun e => ?_, fun e => ?_⟩
  · rw [e] at h1
    exact Nat.eq_of_beq_eq_true h1
  · rcases e with e | e <;> rw [e] at h2 <;> simp only [Nat.beq_refl, Bool.true_or, Bool.or_true, Bool.not_true, Bool.false_or, Bool.and_eq_true] at h2
    · rw [e]
      exact ⟨Nat.eq_of_beq_eq_true h2.1, Nat.le_of_ble_eq_true h2.2⟩
    · rw [e]
      exact ⟨Nat.eq_of_beq_eq_true h2.1, Nat.le_of_ble_eq_true h2.2⟩
theorem fu_tyc_C {B : Nat → Int32} {h : kc_H} {x n c : Nat} {v : Int64} (hx : x < 2) (hcn : c + n ≤ 240) (hC : fu_C B 1 h) : fu_C (fu_tyB B x n c v) 1 (kq_F h (29 + x) 0 31 x c (kq_c v) n n) := fun j hj ht => by
  obtain ⟨p1, p2⟩ := fu_pc hj ht
  unfold fu_tyB
  by_cases e1 : j = 160 + x
  · subst e1
    rw [if_pos rfl, (fu_fby x hx).1]
    exact kq_b
  · rw [if_neg e1]
    by_cases e2 : 170 + 240 * x + c ≤ j ∧ j < 170 + 240 * x + c + n
    · rw [if_pos e2]
      obtain ⟨k, rfl, k2⟩ : ∃ k, j = 170 + 240 * x + k ∧ k < 240 := ⟨j - (170 + 240 * x), by omega, by omega⟩
      rw [(fu_ftx x hx k k2).1]
      unfold kq_F
      rw [if_neg (by show ¬ (1 + (28 + x) = 31 ∧ k = x); omega), if_pos (by show 1 + (28 + x) = 29 + x ∧ _; omega), show k - (0 + c) = 170 + 240 * x + k - (170 + 240 * x + c) from by omega]
    · rw [if_neg e2, kq_o (by
        by_cases q : 1 + (fu_p j).1 = 31
        · have := p1 (by omega)
          exact Or.inr (fun r => by omega)
        · exact Or.inl q) (by
        by_cases q : 1 + (fu_p j).1 = 29 + x
        · have := p2 (by omega)
          refine Or.inr ?_
          have e3 : (fu_p j).1 - 28 = x := by omega
          rw [e3] at this
          omega
        · exact Or.inl q)]
      exact hC j hj ht
theorem fu_tyc_B {B : Nat → Int32} {h : kc_H} {x n c : Nat} {v : Int64} (hn : n ≤ 8) (hR : fu_B B h) : fu_B (fu_tyB B x n c v) (kq_F h 260 (170 + 240 * x) 260 (160 + x) c (kq_r v) n n) := fun j hj ht => by
  unfold fu_tyB
  by_cases e1 : j = 160 + x
  · subst e1
    rw [if_pos rfl]
    exact kq_b
  · rw [if_neg e1]
    by_cases e2 : 170 + 240 * x + c ≤ j ∧ j < 170 + 240 * x + c + n
    · rw [if_pos e2]
      unfold kq_F
      rw [if_neg (by omega), if_pos ⟨rfl, e2⟩, kq_eq (by omega)]
    · rw [if_neg e2, kq_o (Or.inr e1) (by omega)]
      exact hR j hj ht
theorem fU_Xtyp {g : kc_G} {h : kc_H} {x n : Nat} {v : Int64} (hg : kc_ok g) (hI : fu_I h) (hx : x < 2) (n1 : 1 ≤ n) (n8 : n ≤ 8) : kc_Con g 30 54 [.inr (.inr (.inl (some 0))), .inl (Int32.ofNat x), .inr (.inl v), .inl (Int32.ofNat n)] h (fun rv h1 => ∃ z : Int32, rv = some (.inl z) ∧ kc_Con g 30 56 [.inr (.inr (.inl (some 259))), .inl (Int32.ofNat x), .inr (.inl v), .inl (Int32.ofNat n)] h1 (fun rv2 h2 => rv2 = some (.inl z) ∧ fu_I h2)) := by
  obtain ⟨B, hC, hR⟩ := hI.2.1
  have hB := fu_C_T hI.1 hC
  obtain ⟨c, c1, ec⟩ := fu_nat (by decide) (fu_fby x hx).2.2 (hB (160 + x) (by omega) (fu_fby x hx).2.1)
  have hc : h 31 x = .inl (Int32.ofNat c) := (fu_Cj (c := 30) hC (by omega) (fu_fby x hx).2.1 (fu_fby x hx).1).trans (by rw [ec])
  refine kc_Con_mono (kc_Con_le (fq_54 (d := 0) (v := v) hg (kx_ofr (hI.1 _ _ _ kv_k0.1)) hx (kx_ofr (hI.1 _ _ _ kr_k1.1)) (kx_ofr (hI.1 _ _ _ kr_k1.2.1)) (kx_ofr (hI.1 _ _ _ (ku_kt.2.1 x hx))) hc n1 n8 c1) (by decide)) (fun rv h1 hq => ?_)
  rcases hq with ⟨q1, rfl, rfl⟩ | ⟨q1, rfl, rfl⟩
  · have hw1 : kd_wt kd_ty (kq_F h (29 + x) 0 31 x c (kq_c v) n n) := ku_Fwt hI.1 n8 q1 (fun i _ => ku_clt v i) (ku_kt.1 x hx) (fun j hj => by rw [Nat.zero_add]; exact ku_kt.2.2 x hx j hj)
    have e1 : ∀ a b, ¬ a = 31 → ¬ a = 29 + x → kq_F h (29 + x) 0 31 x c (kq_c v) n n a b = h a b := fun a b p1 p2 => kq_o (Or.inl p1) (Or.inl p2)
    have hR1 : fu_B B (kq_F h (29 + x) 0 31 x c (kq_c v) n n) := fu_Beq (fun i _ => e1 260 i (by decide) (by omega)) hR
    have hC1 := fu_tyc_C (v := v) hx q1 hC
    generalize hh : kq_F h (29 + x) 0 31 x c (kq_c v) n n = h1 at hw1 e1 hR1 hC1
    refine ⟨_, rfl, kc_Con_mono (kc_Con_le (fq_56 (d := 0) (c := c) (v := v) hg hx (kx_ofr (hw1 _ _ _ kz_k.1)) ((hR1 (160 + x) (by omega) (fu_fby x hx).2.1).trans (by rw [ec])) n1 n8 c1) (by decide)) (fun rv h2 hq => ?_)⟩
    rcases hq with ⟨q2, rfl, rfl⟩ | ⟨q2, -, -⟩
    · have e2 : ∀ a b, ¬ a = 260 → kq_F h1 260 (170 + 240 * x) 260 (160 + x) c (kq_r v) n n a b = h1 a b := fun a b p1 => kq_o (Or.inl p1) (Or.inl p1)
      have e3 : ∀ b, b < 160 → kq_F h1 260 (170 + 240 * x) 260 (160 + x) c (kq_r v) n n 260 b = h 260 b := fun b p1 => (kq_o (Or.inr (by omega)) (Or.inr (Or.inl (by omega)))).trans (e1 260 b (by decide) (by omega))
      refine ⟨rfl, fu_now hI (ku_Fwt hw1 n8 q2 (fun i hi => ku_rlt v hi) (km_k260.1 x hx) (fun j hj => by rw [show 170 + 240 * x + j = 170 + (240 * x + j) from by omega]; exact km_k260.2 _ (by omega))) ⟨fu_tyB B x n c v, fu_Ceq (fun a b a1 a2 => e2 a b (by omega)) hC1, fu_tyc_B n8 hR1⟩ (fun a b a1 a2 => (e2 a b (by omega)).trans (e1 a b (by omega) (by omega))) (fun a b a1 => (e2 a b (by omega)).trans (e1 a b (by omega) (by omega))) (kI_eq (e3 _ (by omega)) (fun i hi => e3 _ (by omega)) hI.2.2.2.2.2.1)⟩
    · omega
  · refine ⟨_, rfl, kc_Con_mono (kc_Con_le (fq_56 (d := 0) (c := c) (v := v) hg hx (kx_ofr (hI.1 _ _ _ kz_k.1)) ((hR (160 + x) (by omega) (fu_fby x hx).2.1).trans (by rw [ec])) n1 n8 c1) (by decide)) (fun rv h2 hq => ?_)⟩
    rcases hq with ⟨q2, -, -⟩ | ⟨q2, rfl, rfl⟩
    · omega
    · exact ⟨rfl, hI⟩
/-- a refused call that an engine's contract tells -/
def fu_m2 (p : kd_P) : Bool := (match p.1, p.2.2 with
  | some (0, l, u), [] => Nat.beq l 2147483646 && Nat.beq u 2147483646
  | _, _ => false)
theorem fu_no2 {g : kc_G} {d id : Nat} {T : kd_Tc} (hh : kd_hold g d kd_ty id T) (hc : T.2.2.all fu_m2 = true) {xs : List kc_V} {h : kc_H} (hw : kd_wt kd_ty h) (hv : wk_f2 (kd_g 0 (fun _ => 0)) T.1 xs) (hF : kd_gF 0 (fun _ => 0) T.2.1 h) : kc_Con g d id xs h (fun rv h' => rv = some (.inl (Int32.ofInt (-2))) ∧ h' = h) := by
  refine kc_Con_mono (hh xs h hw hv hF) (fun rv h' hq => ?_)
  obtain ⟨p, p1, p2, -, -, p5⟩ := hq
  have hp := List.all_eq_true.mp hc p p1
  obtain ⟨r, F, V⟩ := p
  unfold fu_m2 at hp
  split at hp
  · rename_i l u e1 e2
    simp only at e1 e2
    subst e1 e2
    rw [Bool.and_eq_true] at hp
    obtain rfl := Nat.eq_of_beq_eq_true hp.1
    obtain rfl := Nat.eq_of_beq_eq_true hp.2
    cases rv with
    | none => exact p2.elim
    | some y =>
      obtain ⟨z, rfl, z1, z2⟩ := p2
      refine ⟨?_, funext fun c => funext fun i => p5 c i (fun q hq => by cases hq)⟩
      rw [show z = Int32.ofInt (-2) from Int32.toInt_inj.mp (by unfold kd_nb at z1 z2; have := kv_lo z; rw [show (Int32.ofInt (-2)).toInt = -2 from by decide]; omega)]
  · cases hp
theorem fu_pair {g : kc_G} {idc idr dc dr : Nat} {xc xr : List kc_V} {h : kc_H} {z : Int32} (hI : fu_I h) (hdc : dc ≤ 30) (hdr : dr ≤ 30) (c1 : kc_Con g dc idc xc h (fun rv h' => rv = some (.inl z) ∧ h' = h)) (c2 : kc_Con g dr idr xr h (fun rv h' => rv = some (.inl z) ∧ h' = h)) : kc_Con g 30 idc xc h (fun rv h1 => ∃ z : Int32, rv = some (.inl z) ∧ kc_Con g 30 idr xr h1 (fun rv2 h2 => rv2 = some (.inl z) ∧ fu_I h2)) := by
  refine kc_Con_mono (kc_Con_le c1 hdc) (fun rv h1 hq => ?_)
  obtain ⟨rfl, rfl⟩ := hq
  refine ⟨z, rfl, kc_Con_mono (kc_Con_le c2 hdr) (fun rv h2 hq => ?_)⟩
  obtain ⟨rfl, rfl⟩ := hq
  exact ⟨rfl, hI⟩
theorem fU_Xtype {g : kc_G} {h : kc_H} {a e : Int32} {v : Int64} (hg : kc_ok g) (hI : fu_I h) : kc_Con g 30 54 [.inr (.inr (.inl (some 0))), .inl a, .inr (.inl v), .inl e] h (fun rv h1 => ∃ z : Int32, rv = some (.inl z) ∧ kc_Con g 30 56 [.inr (.inr (.inl (some 259))), .inl a, .inr (.inl v), .inl e] h1 (fun rv2 h2 => rv2 = some (.inl z) ∧ fu_I h2)) := by
  have alo := kv_lo a
  have ahi := kv_hi a
  have elo := kv_lo e
  have ehi := kv_hi e
  rcases (show (0 ≤ a.toInt ∧ a.toInt ≤ 1 ∧ 1 ≤ e.toInt ∧ e.toInt ≤ 8) ∨ a.toInt < 0 ∨ 1 < a.toInt ∨ (a.toInt = 0 ∧ e.toInt < 1) ∨ (a.toInt = 0 ∧ 8 < e.toInt) ∨ (a.toInt = 1 ∧ e.toInt < 1) ∨ (a.toInt = 1 ∧ 8 < e.toInt) by omega) with k | k | k | k | k | k | k
  · obtain ⟨x, x1, -, rfl⟩ := ku_nat (u := 1) k.1 (by omega)
    obtain ⟨n, n1, en, rfl⟩ := ku_nat (a := e) (u := 8) (by omega) (by omega)
    exact fU_Xtyp hg hI (by omega) (by omega) n1
  · exact fu_pair hI (by decide) (by decide) (fu_no2 (kd_h54tl hg) (by decide +kernel) hI.1 ⟨⟨0, rfl, by decide, by decide⟩, kv_gi (by omega) (by omega), ku_tJ v, kv_gi (by omega) (by omega), trivial⟩ (fun q hq => by cases hq)) (fu_no2 (kd_h56tl hg) (by decide +kernel) hI.1 ⟨⟨259, rfl, by decide, by decide⟩, kv_gi (by omega) (by omega), ku_tJ v, kv_gi (by omega) (by omega), trivial⟩ (fun q hq => by cases hq))
  · exact fu_pair hI (by decide) (by decide) (fu_no2 (kd_h54th hg) (by decide +kernel) hI.1 ⟨⟨0, rfl, by decide, by decide⟩, kv_gi (by omega) (by omega), ku_tJ v, kv_gi (by omega) (by omega), trivial⟩ (fun q hq => by cases hq)) (fu_no2 (kd_h56th hg) (by decide +kernel) hI.1 ⟨⟨259, rfl, by decide, by decide⟩, kv_gi (by omega) (by omega), ku_tJ v, kv_gi (by omega) (by omega), trivial⟩ (fun q hq => by cases hq))
  · exact fu_pair hI (by decide) (by decide) (fu_no2 (kd_h54nl hg) (by decide +kernel) hI.1 ⟨⟨0, rfl, by decide, by decide⟩, kv_gi (by omega) (by omega), ku_tJ v, kv_gi (by omega) (by omega), trivial⟩ (fun q hq => by cases hq)) (fu_no2 (kd_h56nl hg) (by decide +kernel) hI.1 ⟨⟨259, rfl, by decide, by decide⟩, kv_gi (by omega) (by omega), ku_tJ v, kv_gi (by omega) (by omega), trivial⟩ (fun q hq => by cases hq))
  · exact fu_pair hI (by decide) (by decide) (fu_no2 (kd_h54nh hg) (by decide +kernel) hI.1 ⟨⟨0, rfl, by decide, by decide⟩, kv_gi (by omega) (by omega), ku_tJ v, kv_gi (by omega) (by omega), trivial⟩ (fun q hq => by cases hq)) (fu_no2 (kd_h56nh hg) (by decide +kernel) hI.1 ⟨⟨259, rfl, by decide, by decide⟩, kv_gi (by omega) (by omega), ku_tJ v, kv_gi (by omega) (by omega), trivial⟩ (fun q hq => by cases hq))
  · exact fu_pair hI (by decide) (by decide) (fu_no2 (kd_h54ml hg) (by decide +kernel) hI.1 ⟨⟨0, rfl, by decide, by decide⟩, kv_gi (by omega) (by omega), ku_tJ v, kv_gi (by omega) (by omega), trivial⟩ (fun q hq => by cases hq)) (fu_no2 (kd_h56ml hg) (by decide +kernel) hI.1 ⟨⟨259, rfl, by decide, by decide⟩, kv_gi (by omega) (by omega), ku_tJ v, kv_gi (by omega) (by omega), trivial⟩ (fun q hq => by cases hq))
  · exact fu_pair hI (by decide) (by decide) (fu_no2 (kd_h54mh hg) (by decide +kernel) hI.1 ⟨⟨0, rfl, by decide, by decide⟩, kv_gi (by omega) (by omega), ku_tJ v, kv_gi (by omega) (by omega), trivial⟩ (fun q hq => by cases hq)) (fu_no2 (kd_h56mh hg) (by decide +kernel) hI.1 ⟨⟨259, rfl, by decide, by decide⟩, kv_gi (by omega) (by omega), ku_tJ v, kv_gi (by omega) (by omega), trivial⟩ (fun q hq => by cases hq))
theorem fU_Ximage0 {g : kc_G} {h : kc_H} (hg : kc_ok g) (hI : fu_I h) : kc_Con g 30 157 [.inr (.inr (.inl (some 0))), .inl (Int32.ofNat 0)] h (fun rv h1 => ∃ z : Int32, rv = some (.inl z) ∧ kc_Con g 30 158 [.inr (.inr (.inl (some 259))), .inl (Int32.ofNat 0)] h1 (fun rv2 h2 => rv2 = some (.inl z) ∧ fu_I h2)) := by
  obtain ⟨B, hC, hR⟩ := hI.2.1
  refine kc_Con_mono (kc_Con_le (fs_Ximage0 (d := 0) hg hI.1) (by decide)) (fun rv h1 hq => ?_)
  obtain ⟨rfl, hh1⟩ := hq
  have hw1 : kd_wt kd_ty h1 := by rw [hh1]; exact kz_wtb (ku_k126 0 (by decide)) (kt_K_wt hI.1 kt_ty1_64)
  have key := kz_image (d := 0) (h := h1) (i := 0) hg (by decide) (fun k hk => kz_int_r hw1 (kz_k260 k hk).1)
  rw [kz_wid hw1] at key
  refine ⟨_, rfl, kc_Con_mono (kc_Con_le key (by decide)) (fun rv h2 hq2 => ?_)⟩
  obtain ⟨rfl, hh2⟩ := hq2
  refine ⟨rfl, ?_⟩
  have hw2 : kd_wt kd_ty h2 := by
    rw [hh2]
    exact kz_wtb (kz_k262 0 (by decide)) (kz_cp_wt hw1 (fun j hj => by
      obtain ⟨-, a1, a2, -⟩ := kz_k260 j hj
      rw [Nat.zero_add]
      first | exact a1 | exact a2 | (rw [show 650 * 0 + j = j from by omega]; exact a1)))
  have f1 : ∀ c k, ¬ (64 ≤ c ∧ c < 64 + 31) → ¬ c = 126 → h1 c k = h c k := fun c k q1 q2 => by
    rw [hh1, kj_uo q2]
    unfold kt_K
    rw [if_neg (by omega)]
  have f2 : ∀ c k, ¬ (c = 261 ∧ 0 ≤ k ∧ k < 0 + 650) → ¬ c = 262 → h2 c k = h1 c k := fun c k q1 q2 => by
    rw [hh2, kj_uo q2]
    unfold kz_cp
    rw [if_neg (by omega)]
  have g1 : ∀ k, k < 31 → ∀ m, m < kt_ln k → h2 (64 + k) m = h (1 + k) m := fun k hk m hm => by
    rw [f2 _ _ (by omega) (by omega), hh1, kj_uo (by omega)]
    unfold kt_K
    rw [show 64 + k - 64 = k from by omega, if_pos ⟨by omega, by omega, hm⟩]
  have g2 : ∀ m, m < 650 → h2 261 (0 + m) = h 260 m := fun m hm => by
    rw [hh2, kj_uo (by decide)]
    unfold kz_cp
    rw [if_pos ⟨rfl, by omega, by omega⟩, f1 260 _ (by omega) (by omega), show 0 + (0 + m - 650 * 0) = m from by omega]
  have now : ∀ c k, c < 63 ∨ c = 260 → h2 c k = h c k := fun c k q => by rw [f2 c k (by omega) (by omega), f1 c k (by omega) (by omega)]
  obtain ⟨-, -, b1, b3, b5, hL, b6, b7⟩ := hI
  have C1 : fu_C B 64 h2 := fu_Ck g1 hC
  have R1 : fu_R B 261 0 h2 := fun j hj ht => by rw [g2 j hj]; exact hR j hj ht
  have far : ∀ c k, 95 ≤ c → c < 95 + 31 → h2 c k = h c k := fun c k c1 c2 => by rw [f2 c k (by omega) (by omega), f1 c k (by omega) (by omega)]
  have far2 : ∀ k, 650 ≤ k → k < 650 + 650 → h2 261 k = h 261 k := fun k c1 c2 => by rw [f2 261 k (by omega) (by omega), f1 261 k (by omega) (by omega)]
  have kq : ∀ k, ¬ k = 0 → h2 262 k = h 262 k := fun k q => by
    rw [hh2, fu_ne (by omega)]
    exact (kz_n (by decide)).trans (f1 262 k (by omega) (by omega))
  have mineI : kI h2 261 0 := by
    obtain ⟨n, l, a1, a2, a3, a4⟩ := hL
    refine ⟨n, l, a1, ?_, fun k hk => ⟨(a3 k hk).1, (a3 k hk).2.1, ?_⟩, a4⟩
    · rw [g2 3 (by decide)]; rw [Nat.zero_add] at a2; exact a2
    · rw [show 0 + 150 + k = 0 + (150 + k) from by omega, g2 (150 + k) (by omega)]
      have := (a3 k hk).2.2
      rw [Nat.zero_add] at this
      exact this
  have kp : ∀ k, k < 2 → h2 126 k = h2 262 k := fun k hk => by
    have w1 : ∀ k, ¬ k = 0 → h1 126 k = h 126 k := fun k q => by
      rw [hh1, fu_ne (by omega)]
      unfold kt_K
      rw [if_neg (by omega)]
    have w2 : ∀ k, ¬ k = 0 → h2 262 k = h1 262 k := fun k q => by
      rw [hh2, fu_ne (by omega)]
      exact kz_n (by decide)
    rw [f2 126 k (by omega) (by omega)]
    by_cases e : k = 0
    · subst e
      rw [hh1, hh2]
      exact fu_eq.trans fu_eq.symm
    · rw [w1 k e, w2 k e, f1 262 k (by omega) (by omega)]
      exact b5 k hk
  exact ⟨hw2, ⟨B, fu_Ceq (fun c i c1 c2 => now c i (by omega)) hC, fu_Beq (fun i _ => now 260 i (by omega)) hR⟩, Or.inr ⟨B, C1, R1⟩, fu_Meq (kq 1 (by decide)) far far2 b3, kp, kI_eq (now _ _ (by omega)) (fun k _ => now _ _ (by omega)) hL, mineI, kI_eq (far2 _ (by omega) (by omega)) (fun k hk => far2 _ (by omega) (by omega)) b7⟩
theorem fU_Xfrom0 {g : kc_G} {h : kc_H} (hg : kc_ok g) (hI : fu_I h) : kc_Con g 30 159 [.inr (.inr (.inl (some 0))), .inl (Int32.ofNat 0)] h (fun rv h1 => ∃ z : Int32, rv = some (.inl z) ∧ kc_Con g 30 160 [.inr (.inr (.inl (some 259))), .inl (Int32.ofNat 0)] h1 (fun rv2 h2 => rv2 = some (.inl z) ∧ fu_I h2)) := by
  obtain ⟨bo, eb⟩ := ku_kb hI.1 (i := 0) (by decide)
  obtain ⟨-, -, b1, b3, b5, hL, b6, b7⟩ := id hI
  refine kc_Con_mono (kc_Con_le (fs_Xfrom0 (d := 0) hg hI.1 eb) (by decide)) (fun rv h1 hq => ?_)
  obtain ⟨rfl, hq⟩ := hq
  have hw1 : kd_wt kd_ty h1 := by
    rcases hq with ⟨-, rfl⟩ | ⟨-, rfl⟩
    · exact kt_K_wt hI.1 kt_ty64_1
    · exact hI.1
  have f1 : ∀ c k, ¬ (1 ≤ c ∧ c < 32) → h1 c k = h c k := fun c k q1 => by
    rcases hq with ⟨-, rfl⟩ | ⟨-, rfl⟩
    · unfold kt_K
      rw [if_neg (by omega)]
    · rfl
  have eb1 : h1 262 0 = .inl (kp_b bo) := by
    rw [f1 262 0 (by omega), ← b5 0 (by decide)]
    exact eb
  have hty : ∀ j, j < 650 → kd_rn (kd_ty 261) (650 * 0 + j) = kd_rn (kd_ty 260) j := fun j hj => by
    obtain ⟨-, a1, a2, -⟩ := kz_k260 j hj
    first | exact a2 | (rw [show 650 * 0 + j = j from by omega]; exact a1)
  have key := kz_from (d := 0) (h := h1) (i := 0) (b := bo) hg (by decide) eb1 (fun k hk => kz_int_r hw1 (by rw [hty k hk]; exact (kz_k260 k hk).1))
  rw [kz_wid hw1] at key
  refine ⟨_, rfl, kc_Con_mono (kc_Con_le key (by decide)) (fun rv h2 hq2 => ?_)⟩
  rcases hq with ⟨eb0, hh1⟩ | ⟨eb0, rfl⟩
  · rcases hq2 with ⟨-, rfl, hh2⟩ | ⟨eb2, -, -⟩
    · refine ⟨by rw [eb0]; rfl, ?_⟩
      obtain ⟨B1, c1, c2⟩ : ∃ B, fu_C B 64 h ∧ fu_R B 261 0 h := by
        rcases b1 with q | q
        · rw [← b5 0 (by decide), eb, eb0] at q
          exact absurd q (by decide)
        · exact q
      have hw2 : kd_wt kd_ty h2 := by
        rw [hh2]
        exact kz_cp_wt hw1 (fun j hj => by rw [hty j hj, Nat.zero_add])
      have f2 : ∀ c k, ¬ (c = 260 ∧ k < 650) → h2 c k = h1 c k := fun c k q1 => by
        rw [hh2]
        unfold kz_cp
        rw [if_neg (by omega)]
      have g1 : ∀ k, k < 31 → ∀ m, m < kt_ln k → h2 (1 + k) m = h (64 + k) m := fun k hk m hm => by
        rw [f2 _ _ (by omega), hh1]
        unfold kt_K
        rw [show 1 + k - 1 = k from by omega, if_pos ⟨by omega, by omega, hm⟩]
      have g2 : ∀ m, m < 650 → h2 260 m = h 261 (0 + m) := fun m hm => by
        rw [hh2]
        unfold kz_cp
        rw [if_pos ⟨rfl, by omega, by omega⟩, f1 261 _ (by omega), show 650 * 0 + (m - 0) = 0 + m from by omega]
      refine fu_now hI hw2 ⟨B1, fu_Ck g1 c1, fun j hj ht => by rw [g2 j hj]; exact c2 j hj ht⟩ (fun c k q1 q2 => by rw [f2 c k (by omega), f1 c k (by omega)]) (fun c k q => by rw [f2 c k (by omega), f1 c k (by omega)]) ?_
      obtain ⟨n, l, a1, a2, a3, a4⟩ := b6
      refine ⟨n, l, a1, ?_, fun k hk => ⟨(a3 k hk).1, (a3 k hk).2.1, ?_⟩, a4⟩
      · rw [g2 (0 + 3) (by decide)]; exact a2
      · rw [g2 (0 + 150 + k) (by omega), show 0 + (0 + 150 + k) = 0 + 150 + k from by omega]
        exact (a3 k hk).2.2
    · rw [eb0] at eb2
      cases eb2
  · rcases hq2 with ⟨eb2, -, -⟩ | ⟨-, rfl, rfl⟩
    · rw [eb0] at eb2
      cases eb2
    · exact ⟨by rw [eb0]; rfl, hI⟩
theorem fU_Ximage1 {g : kc_G} {h : kc_H} (hg : kc_ok g) (hI : fu_I h) : kc_Con g 30 157 [.inr (.inr (.inl (some 0))), .inl (Int32.ofNat 1)] h (fun rv h1 => ∃ z : Int32, rv = some (.inl z) ∧ kc_Con g 30 158 [.inr (.inr (.inl (some 259))), .inl (Int32.ofNat 1)] h1 (fun rv2 h2 => rv2 = some (.inl z) ∧ fu_I h2)) := by
  obtain ⟨B, hC, hR⟩ := hI.2.1
  refine kc_Con_mono (kc_Con_le (fs_Ximage1 (d := 0) hg hI.1) (by decide)) (fun rv h1 hq => ?_)
  obtain ⟨rfl, hh1⟩ := hq
  have hw1 : kd_wt kd_ty h1 := by rw [hh1]; exact kz_wtb (ku_k126 1 (by decide)) (kt_K_wt hI.1 kt_ty1_95)
  have key := kz_image (d := 0) (h := h1) (i := 1) hg (by decide) (fun k hk => kz_int_r hw1 (kz_k260 k hk).1)
  rw [kz_wid hw1] at key
  refine ⟨_, rfl, kc_Con_mono (kc_Con_le key (by decide)) (fun rv h2 hq2 => ?_)⟩
  obtain ⟨rfl, hh2⟩ := hq2
  refine ⟨rfl, ?_⟩
  have hw2 : kd_wt kd_ty h2 := by
    rw [hh2]
    exact kz_wtb (kz_k262 1 (by decide)) (kz_cp_wt hw1 (fun j hj => by
      obtain ⟨-, a1, a2, -⟩ := kz_k260 j hj
      rw [Nat.zero_add]
      first | exact a1 | exact a2 | (rw [show 650 * 0 + j = j from by omega]; exact a1)))
  have f1 : ∀ c k, ¬ (95 ≤ c ∧ c < 95 + 31) → ¬ c = 126 → h1 c k = h c k := fun c k q1 q2 => by
    rw [hh1, kj_uo q2]
    unfold kt_K
    rw [if_neg (by omega)]
  have f2 : ∀ c k, ¬ (c = 261 ∧ 650 ≤ k ∧ k < 650 + 650) → ¬ c = 262 → h2 c k = h1 c k := fun c k q1 q2 => by
    rw [hh2, kj_uo q2]
    unfold kz_cp
    rw [if_neg (by omega)]
  have g1 : ∀ k, k < 31 → ∀ m, m < kt_ln k → h2 (95 + k) m = h (1 + k) m := fun k hk m hm => by
    rw [f2 _ _ (by omega) (by omega), hh1, kj_uo (by omega)]
    unfold kt_K
    rw [show 95 + k - 95 = k from by omega, if_pos ⟨by omega, by omega, hm⟩]
  have g2 : ∀ m, m < 650 → h2 261 (650 + m) = h 260 m := fun m hm => by
    rw [hh2, kj_uo (by decide)]
    unfold kz_cp
    rw [if_pos ⟨rfl, by omega, by omega⟩, f1 260 _ (by omega) (by omega), show 0 + (650 + m - 650 * 1) = m from by omega]
  have now : ∀ c k, c < 63 ∨ c = 260 → h2 c k = h c k := fun c k q => by rw [f2 c k (by omega) (by omega), f1 c k (by omega) (by omega)]
  obtain ⟨-, -, b1, b3, b5, hL, b6, b7⟩ := hI
  have C1 : fu_C B 95 h2 := fu_Ck g1 hC
  have R1 : fu_R B 261 650 h2 := fun j hj ht => by rw [g2 j hj]; exact hR j hj ht
  have far : ∀ c k, 64 ≤ c → c < 64 + 31 → h2 c k = h c k := fun c k c1 c2 => by rw [f2 c k (by omega) (by omega), f1 c k (by omega) (by omega)]
  have far2 : ∀ k, 0 ≤ k → k < 0 + 650 → h2 261 k = h 261 k := fun k c1 c2 => by rw [f2 261 k (by omega) (by omega), f1 261 k (by omega) (by omega)]
  have kq : ∀ k, ¬ k = 1 → h2 262 k = h 262 k := fun k q => by
    rw [hh2, fu_ne (by omega)]
    exact (kz_n (by decide)).trans (f1 262 k (by omega) (by omega))
  have mineI : kI h2 261 650 := by
    obtain ⟨n, l, a1, a2, a3, a4⟩ := hL
    refine ⟨n, l, a1, ?_, fun k hk => ⟨(a3 k hk).1, (a3 k hk).2.1, ?_⟩, a4⟩
    · rw [g2 3 (by decide)]; rw [Nat.zero_add] at a2; exact a2
    · rw [show 650 + 150 + k = 650 + (150 + k) from by omega, g2 (150 + k) (by omega)]
      have := (a3 k hk).2.2
      rw [Nat.zero_add] at this
      exact this
  have kp : ∀ k, k < 2 → h2 126 k = h2 262 k := fun k hk => by
    have w1 : ∀ k, ¬ k = 1 → h1 126 k = h 126 k := fun k q => by
      rw [hh1, fu_ne (by omega)]
      unfold kt_K
      rw [if_neg (by omega)]
    have w2 : ∀ k, ¬ k = 1 → h2 262 k = h1 262 k := fun k q => by
      rw [hh2, fu_ne (by omega)]
      exact kz_n (by decide)
    rw [f2 126 k (by omega) (by omega)]
    by_cases e : k = 1
    · subst e
      rw [hh1, hh2]
      exact fu_eq.trans fu_eq.symm
    · rw [w1 k e, w2 k e, f1 262 k (by omega) (by omega)]
      exact b5 k hk
  exact ⟨hw2, ⟨B, fu_Ceq (fun c i c1 c2 => now c i (by omega)) hC, fu_Beq (fun i _ => now 260 i (by omega)) hR⟩, fu_Meq (kq 0 (by decide)) far far2 b1, Or.inr ⟨B, C1, R1⟩, kp, kI_eq (now _ _ (by omega)) (fun k _ => now _ _ (by omega)) hL, kI_eq (far2 _ (by omega) (by omega)) (fun k hk => far2 _ (by omega) (by omega)) b6, mineI⟩
theorem fU_Xfrom1 {g : kc_G} {h : kc_H} (hg : kc_ok g) (hI : fu_I h) : kc_Con g 30 159 [.inr (.inr (.inl (some 0))), .inl (Int32.ofNat 1)] h (fun rv h1 => ∃ z : Int32, rv = some (.inl z) ∧ kc_Con g 30 160 [.inr (.inr (.inl (some 259))), .inl (Int32.ofNat 1)] h1 (fun rv2 h2 => rv2 = some (.inl z) ∧ fu_I h2)) := by
  obtain ⟨bo, eb⟩ := ku_kb hI.1 (i := 1) (by decide)
  obtain ⟨-, -, b1, b3, b5, hL, b6, b7⟩ := id hI
  refine kc_Con_mono (kc_Con_le (fs_Xfrom1 (d := 0) hg hI.1 eb) (by decide)) (fun rv h1 hq => ?_)
  obtain ⟨rfl, hq⟩ := hq
  have hw1 : kd_wt kd_ty h1 := by
    rcases hq with ⟨-, rfl⟩ | ⟨-, rfl⟩
    · exact kt_K_wt hI.1 kt_ty95_1
    · exact hI.1
  have f1 : ∀ c k, ¬ (1 ≤ c ∧ c < 32) → h1 c k = h c k := fun c k q1 => by
    rcases hq with ⟨-, rfl⟩ | ⟨-, rfl⟩
    · unfold kt_K
      rw [if_neg (by omega)]
    · rfl
  have eb1 : h1 262 1 = .inl (kp_b bo) := by
    rw [f1 262 1 (by omega), ← b5 1 (by decide)]
    exact eb
  have hty : ∀ j, j < 650 → kd_rn (kd_ty 261) (650 * 1 + j) = kd_rn (kd_ty 260) j := fun j hj => by
    obtain ⟨-, a1, a2, -⟩ := kz_k260 j hj
    first | exact a2 | (rw [show 650 * 0 + j = j from by omega]; exact a1)
  have key := kz_from (d := 0) (h := h1) (i := 1) (b := bo) hg (by decide) eb1 (fun k hk => kz_int_r hw1 (by rw [hty k hk]; exact (kz_k260 k hk).1))
  rw [kz_wid hw1] at key
  refine ⟨_, rfl, kc_Con_mono (kc_Con_le key (by decide)) (fun rv h2 hq2 => ?_)⟩
  rcases hq with ⟨eb0, hh1⟩ | ⟨eb0, rfl⟩
  · rcases hq2 with ⟨-, rfl, hh2⟩ | ⟨eb2, -, -⟩
    · refine ⟨by rw [eb0]; rfl, ?_⟩
      obtain ⟨B1, c1, c2⟩ : ∃ B, fu_C B 95 h ∧ fu_R B 261 650 h := by
        rcases b3 with q | q
        · rw [← b5 1 (by decide), eb, eb0] at q
          exact absurd q (by decide)
        · exact q
      have hw2 : kd_wt kd_ty h2 := by
        rw [hh2]
        exact kz_cp_wt hw1 (fun j hj => by rw [hty j hj, Nat.zero_add])
      have f2 : ∀ c k, ¬ (c = 260 ∧ k < 650) → h2 c k = h1 c k := fun c k q1 => by
        rw [hh2]
        unfold kz_cp
        rw [if_neg (by omega)]
      have g1 : ∀ k, k < 31 → ∀ m, m < kt_ln k → h2 (1 + k) m = h (95 + k) m := fun k hk m hm => by
        rw [f2 _ _ (by omega), hh1]
        unfold kt_K
        rw [show 1 + k - 1 = k from by omega, if_pos ⟨by omega, by omega, hm⟩]
      have g2 : ∀ m, m < 650 → h2 260 m = h 261 (650 + m) := fun m hm => by
        rw [hh2]
        unfold kz_cp
        rw [if_pos ⟨rfl, by omega, by omega⟩, f1 261 _ (by omega), show 650 * 1 + (m - 0) = 650 + m from by omega]
      refine fu_now hI hw2 ⟨B1, fu_Ck g1 c1, fun j hj ht => by rw [g2 j hj]; exact c2 j hj ht⟩ (fun c k q1 q2 => by rw [f2 c k (by omega), f1 c k (by omega)]) (fun c k q => by rw [f2 c k (by omega), f1 c k (by omega)]) ?_
      obtain ⟨n, l, a1, a2, a3, a4⟩ := b7
      refine ⟨n, l, a1, ?_, fun k hk => ⟨(a3 k hk).1, (a3 k hk).2.1, ?_⟩, a4⟩
      · rw [g2 (0 + 3) (by decide)]; exact a2
      · rw [g2 (0 + 150 + k) (by omega), show 650 + (0 + 150 + k) = 650 + 150 + k from by omega]
        exact (a3 k hk).2.2
    · rw [eb0] at eb2
      cases eb2
  · rcases hq2 with ⟨eb2, -, -⟩ | ⟨-, rfl, rfl⟩
    · rw [eb0] at eb2
      cases eb2
    · exact ⟨by rw [eb0]; rfl, hI⟩
theorem fU_Ximage {g : kc_G} {h : kc_H} {a : Int32} (hg : kc_ok g) (hI : fu_I h) : kc_Con g 30 157 [.inr (.inr (.inl (some 0))), .inl a] h (fun rv h1 => ∃ z : Int32, rv = some (.inl z) ∧ kc_Con g 30 158 [.inr (.inr (.inl (some 259))), .inl a] h1 (fun rv2 h2 => rv2 = some (.inl z) ∧ fu_I h2)) := by
  have alo := kv_lo a
  have ahi := kv_hi a
  rcases (show (0 ≤ a.toInt ∧ a.toInt ≤ 1) ∨ a.toInt < 0 ∨ 1 < a.toInt by omega) with k | k | k
  · obtain ⟨x, x1, -, rfl⟩ := ku_nat (u := 1) k.1 (by omega)
    rcases (show x = 0 ∨ x = 1 by omega) with rfl | rfl
    · exact fU_Ximage0 hg hI
    · exact fU_Ximage1 hg hI
  · exact fu_pair hI (by decide) (by decide) (fu_no2 (kd_h157tl hg) (by decide +kernel) hI.1 ⟨⟨0, rfl, by decide, by decide⟩, kv_gi (by omega) (by omega), trivial⟩ (fun q hq => by cases hq)) (fu_no2 (kd_h158a hg) (by decide +kernel) hI.1 ⟨⟨259, rfl, by decide, by decide⟩, kv_gi (by omega) (by omega), trivial⟩ (fun q hq => by cases hq))
  · exact fu_pair hI (by decide) (by decide) (fu_no2 (kd_h157th hg) (by decide +kernel) hI.1 ⟨⟨0, rfl, by decide, by decide⟩, kv_gi (by omega) (by omega), trivial⟩ (fun q hq => by cases hq)) (fu_no2 (kd_h158b hg) (by decide +kernel) hI.1 ⟨⟨259, rfl, by decide, by decide⟩, kv_gi (by omega) (by omega), trivial⟩ (fun q hq => by cases hq))
theorem fU_Xfrom {g : kc_G} {h : kc_H} {a : Int32} (hg : kc_ok g) (hI : fu_I h) : kc_Con g 30 159 [.inr (.inr (.inl (some 0))), .inl a] h (fun rv h1 => ∃ z : Int32, rv = some (.inl z) ∧ kc_Con g 30 160 [.inr (.inr (.inl (some 259))), .inl a] h1 (fun rv2 h2 => rv2 = some (.inl z) ∧ fu_I h2)) := by
  have alo := kv_lo a
  have ahi := kv_hi a
  rcases (show (0 ≤ a.toInt ∧ a.toInt ≤ 1) ∨ a.toInt < 0 ∨ 1 < a.toInt by omega) with k | k | k
  · obtain ⟨x, x1, -, rfl⟩ := ku_nat (u := 1) k.1 (by omega)
    rcases (show x = 0 ∨ x = 1 by omega) with rfl | rfl
    · exact fU_Xfrom0 hg hI
    · exact fU_Xfrom1 hg hI
  · exact fu_pair hI (by decide) (by decide) (fu_no2 (kd_h159tl hg) (by decide +kernel) hI.1 ⟨⟨0, rfl, by decide, by decide⟩, kv_gi (by omega) (by omega), trivial⟩ (fun q hq => by cases hq)) (fu_no2 (kd_h160a hg) (by decide +kernel) hI.1 ⟨⟨259, rfl, by decide, by decide⟩, kv_gi (by omega) (by omega), trivial⟩ (fun q hq => by cases hq))
  · exact fu_pair hI (by decide) (by decide) (fu_no2 (kd_h159th hg) (by decide +kernel) hI.1 ⟨⟨0, rfl, by decide, by decide⟩, kv_gi (by omega) (by omega), trivial⟩ (fun q hq => by cases hq)) (fu_no2 (kd_h160b hg) (by decide +kernel) hI.1 ⟨⟨259, rfl, by decide, by decide⟩, kv_gi (by omega) (by omega), trivial⟩ (fun q hq => by cases hq))
/-! ===== day: all told alike ===== -/
theorem fu_bw3 : ∀ {l : List (Nat × Int32)} {B : Nat → Int32}, fu_sd l → fu_bw l B 3 = B 3
  | [], _, _ => rfl
  | q :: l, B, hs => (fu_bw3 (l := l) (fun r hr => hs r (List.mem_cons_of_mem _ hr))).trans (if_neg (fun e => (hs q List.mem_cons_self).1 e.symm))
theorem fu_s_step {v : Nat} {n : Nat → Nat} {B : Nat → Int32} (hv : v < 9) (hB : fu_BT B) : fu_sd (fu_step v n B).2 := by
  rcases (show v = 0 ∨ v = 1 ∨ v = 2 ∨ v = 3 ∨ v = 4 ∨ v = 5 ∨ v = 6 ∨ v = 7 ∨ v = 8 by omega) with rfl | rfl | rfl | rfl | rfl | rfl | rfl | rfl | rfl
  · exact fu_s_mule hB
  · exact fu_s_load hB
  · exact fu_s_door hB
  · exact fu_s_way hB
  · exact fu_s_lame hB
  · exact fu_s_ford hB
  · exact fu_s_ask hB
  · exact fu_s_drain hB
  · exact fu_s_stones hB
theorem fu_fold3 : ∀ {l : List (Nat × List Nat)} {i : Nat} {B B2 : Nat → Int32}, (∀ q ∈ l, q.1 < 9) → fu_BT B → fu_fold l i B = .inl B2 → B2 3 = B 3
  | [], _, B, B2, _, _, h => by
    have h : (Sum.inl B : (Nat → Int32) ⊕ Nat) = .inl B2 := h
    cases h
    rfl
  | q :: l, i, B, B2, hl, hB, h => by
    have h : (if (fu_step q.1 (fun k => q.2.getD k 0) B).1.toInt < 0 then (.inr i : (Nat → Int32) ⊕ Nat) else fu_fold l (i + 1) (fu_bw (fu_step q.1 (fun k => q.2.getD k 0) B).2 B)) = .inl B2 := h
    have hq := hl q List.mem_cons_self
    split at h
    · cases h
    · rw [fu_fold3 (fun r hr => hl r (List.mem_cons_of_mem _ hr)) (fu_BT_w (fu_g_step hq hB) hB) h]
      exact fu_bw3 (fu_s_step hq hB)
theorem fu_dPu {B : Nat → Int32} {o : Option (Nat × ((Nat → Int32) ⊕ Nat))} {rv rv2 : Option kc_V} {B1 B2 : Nat → Int32} (h1 : fu_dP B o rv B1) (h2 : fu_dP B o rv2 B2) : B1 = B2 := by
  match o, h1, h2 with
  | none, h1, h2 => exact h1.2.trans h2.2.symm
  | some (_, .inl _), h1, h2 => exact h1.2.trans h2.2.symm
  | some (_, .inr _), h1, h2 => exact h1.2.trans h2.2.symm
theorem fu_dPz {B : Nat → Int32} {o : Option (Nat × ((Nat → Int32) ⊕ Nat))} {rv : Option kc_V} {B1 : Nat → Int32} (h1 : fu_dP B o rv B1) : ∃ z : Int32, rv = some (.inl z) := by
  match o, h1 with
  | none, h1 => exact ⟨_, h1.1.choose_spec⟩
  | some (_, .inl _), h1 => exact ⟨_, h1.1⟩
  | some (_, .inr _), h1 => exact ⟨_, h1.1⟩
theorem fu_dP3 {B : Nat → Int32} {t : Nat → Nat} {n : Nat} {rv : Option kc_V} {B1 : Nat → Int32} (hn : n ≤ 240) (hB : fu_BT B) (h1 : fu_dP B (fu_out t n B) rv B1) : B1 = B ∨ B1 3 = Int32.ofNat 0 := by
  cases hk : kp_its t n 9 0 61 0 with
  | none =>
    rw [fu_outn hk] at h1
    exact Or.inl h1.2
  | some l =>
    obtain ⟨hall, hlen⟩ := kp_its_ok hn (by decide) 61 0 0 l (by omega) (by omega) hk
    rw [fu_outs hk] at h1
    cases hf : fu_fold l 0 (fu_beg B) with
    | inl B2 =>
      rw [hf] at h1
      refine Or.inr ?_
      rw [h1.2, fu_fold3 (fun q hq => by obtain ⟨b1, -, b3, b4⟩ := hall q hq; omega) (fu_BT_beg hB) hf]
      rfl
    | inr i =>
      rw [hf] at h1
      exact Or.inl h1.2
theorem fU_day {g : kc_G} {h : kc_H} (hg : kc_ok g) (hI : fu_I h) : kc_Con g 30 67 [.inr (.inr (.inl (some 0)))] h (fun rv h1 => (∃ z : Int32, rv = some (.inl z)) ∧ kc_Con g 30 71 [.inr (.inr (.inl (some 259)))] h1 (fun rv2 h2 => (∃ z : Int32, rv2 = some (.inl z)) ∧ fu_I h2)) := by
  obtain ⟨B, hC, hR⟩ := hI.2.1
  have hB := fu_C_T hI.1 hC
  obtain ⟨n, n1, en⟩ := fu_nat (by decide) (fu_fby 0 (by decide)).2.2 (hB 160 (by decide) (by decide))
  have ht0 : ∀ j, ∃ v : Nat, j < 240 → v < 256 ∧ B (170 + j) = Int32.ofNat v := fun j => by
    by_cases hj : j < 240
    · obtain ⟨v, v1, v2⟩ := fu_nat (by decide) (fu_ftx 0 (by decide) j hj).2.2 (hB (170 + 240 * 0 + j) (by omega) (fu_ftx 0 (by decide) j hj).2.1)
      rw [show 170 + 240 * 0 + j = 170 + j from by omega] at v2
      exact ⟨v, fun _ => ⟨by omega, v2⟩⟩
    · exact ⟨0, fun q => absurd q hj⟩
  obtain ⟨t, ht⟩ := Classical.axiomOfChoice ht0
  have h29 : ∀ j, j < 240 → h 29 j = .inl (Int32.ofNat (t j)) := fun j hj => by
    have e := fu_Cj (c := 28) (i := j) hC (by omega) (fu_ftx 0 (by decide) j hj).2.1 (fu_ftx 0 (by decide) j hj).1
    rw [show 170 + 240 * 0 + j = 170 + j from by omega, (ht j hj).2] at e
    exact e
  have h31 : h 31 0 = .inl (Int32.ofNat n) := (fu_Cj (c := 30) (j := 160) hC (by decide) (by decide) (by decide)).trans (by rw [en])
  refine kc_Con_mono (kc_Con_le (fu_day67 hg hC hI.1 n1 (fun j hj => (ht j hj).1) h29 h31) (by decide)) (fun rv h1 hq => ?_)
  obtain ⟨B1, p1, C1, w1, f1⟩ := hq
  refine ⟨fu_dPz p1, ?_⟩
  have e260 : ∀ i, h1 260 i = h 260 i := fun i => f1 260 i (by decide) (by decide)
  have R1 : fu_B B h1 := fu_Beq (fun i _ => e260 i) hR
  refine kc_Con_mono (kc_Con_le (fu_day71 hg R1 hB w1 n1 (fun j hj => (ht j hj).1) (fun j hj => by rw [R1 (170 + j) (by omega) (by have := (fu_ftx 0 (by decide) j hj).2.1; rw [show 170 + 240 * 0 + j = 170 + j from by omega] at this; exact this), (ht j hj).2]) (by rw [R1 160 (by decide) (by decide), en])) (by decide)) (fun rv h2 hq => ?_)
  obtain ⟨B2, p2, R2, w2, f2, l2⟩ := hq
  obtain rfl := fu_dPu p1 p2
  refine ⟨fu_dPz p2, fu_now hI w2 ⟨B1, fu_Ceq (fun c i c1 c2 => f2 c i (by omega)) C1, R2⟩ (fun c i a b => (f2 c i (by omega)).trans (f1 c i (by omega) (by omega))) (fun c i a => (f2 c i (by omega)).trans (f1 c i (by omega) (by omega))) ?_⟩
  rcases fu_dP3 n1 hB p2 with e | e
  · refine kI_eq ?_ (fun i hi => ?_) hI.2.2.2.2.2.1
    · rw [R2 (0 + 3) (by decide) (by decide), hR (0 + 3) (by decide) (by decide), e]
    · rw [Nat.zero_add, l2 e i hi, e260]
  · exact ⟨0, fun _ => 0, by decide, by rw [R2 (0 + 3) (by decide) (by decide)]; exact congrArg Sum.inl e, fun i hi => absurd hi (by omega), fun i j _ hj => absurd hj (by omega)⟩
/-! ===== calls that keep all told alike by themselves ===== -/
def fu_P : List (Nat × Nat × Nat) := [(1, 0, 3), (3, 0, 5), (4, 0, 5), (5, 0, 5), (6, 0, 5), (7, 0, 5), (8, 0, 5), (9, 0, 5), (10, 0, 5), (12, 0, 4), (13, 0, 4), (14, 0, 4), (16, 0, 5), (17, 0, 5), (18, 0, 5), (19, 0, 5), (20, 0, 5), (21, 0, 5), (22, 0, 5), (23, 0, 5), (24, 0, 5), (25, 0, 5), (26, 0, 1), (27, 0, 4), (29, 0, 239), (30, 0, 239), (31, 0, 1), (64, 0, 3), (66, 0, 5), (67, 0, 5), (68, 0, 5), (69, 0, 5), (70, 0, 5), (71, 0, 5), (72, 0, 5), (73, 0, 5), (75, 0, 4), (76, 0, 4), (77, 0, 4), (79, 0, 5), (80, 0, 5), (81, 0, 5), (82, 0, 5), (83, 0, 5), (84, 0, 5), (85, 0, 5), (86, 0, 5), (87, 0, 5), (88, 0, 5), (89, 0, 1), (90, 0, 4), (92, 0, 239), (93, 0, 239), (94, 0, 1), (95, 0, 3), (97, 0, 5), (98, 0, 5), (99, 0, 5), (100, 0, 5), (101, 0, 5), (102, 0, 5), (103, 0, 5), (104, 0, 5), (106, 0, 4), (107, 0, 4), (108, 0, 4), (110, 0, 5), (111, 0, 5), (112, 0, 5), (113, 0, 5), (114, 0, 5), (115, 0, 5), (116, 0, 5), (117, 0, 5), (118, 0, 5), (119, 0, 5), (120, 0, 1), (121, 0, 4), (123, 0, 239), (124, 0, 239), (125, 0, 1), (126, 0, 1), (260, 0, 5), (260, 10, 57), (260, 60, 74), (260, 80, 85), (260, 87, 92), (260, 94, 99), (260, 101, 106), (260, 108, 113), (260, 115, 120), (260, 122, 127), (260, 129, 134), (260, 136, 141), (260, 143, 148), (260, 150, 154), (260, 160, 161), (260, 170, 649), (261, 0, 1299), (262, 0, 1)]
def fu_at (c i : Nat) : Bool := fu_P.any fun p => Nat.beq p.1 c && (Nat.ble p.2.1 i && Nat.ble i p.2.2)
def fu_dis (W : kd_W) : Bool := fu_P.all fun p => W.all fun q => (Nat.blt p.1 q.1 || Nat.blt q.2.1 p.1) || (Nat.blt p.2.2 q.2.2.1 || Nat.blt q.2.2.2 p.2.1)
theorem fu_ats : ∀ j, j < 650 → (!(fu_t j) || (fu_at (1 + (fu_p j).1) (fu_p j).2 && (fu_at (64 + (fu_p j).1) (fu_p j).2 && (fu_at (95 + (fu_p j).1) (fu_p j).2 && (fu_at 260 j && (fu_at 261 j && fu_at 261 (650 + j))))))) = true := by decide +kernel
theorem fu_at_r {W : kd_W} {h h' : kc_H} (hd : fu_dis W = true) (hfr : kd_fr W h h') {c i : Nat} (ha : fu_at c i = true) : h' c i = h c i := by
  obtain ⟨p, p1, p2⟩ := List.any_eq_true.mp ha
  simp only [Bool.and_eq_true] at p2
  have a1 := Nat.eq_of_beq_eq_true p2.1
  have a2 := Nat.le_of_ble_eq_true p2.2.1
  have a3 := Nat.le_of_ble_eq_true p2.2.2
  refine hfr c i (fun q hq => kb_inr ?_)
  have e := List.all_eq_true.mp (List.all_eq_true.mp hd p p1) q hq
  simp only [Bool.or_eq_true] at e
  rcases e with (e | e) | (e | e)
  · have : p.1 < q.1 := Nat.le_of_ble_eq_true e
    omega
  · have : q.2.1 < p.1 := Nat.le_of_ble_eq_true e
    omega
  · have : p.2.2 < q.2.2.1 := Nat.le_of_ble_eq_true e
    omega
  · have : q.2.2.2 < p.2.1 := Nat.le_of_ble_eq_true e
    omega
theorem fu_fr {W : kd_W} {h h' : kc_H} (hd : fu_dis W = true) (hfr : kd_fr W h h') (hw : kd_wt kd_ty h') (hI : fu_I h) : fu_I h' := by
  obtain ⟨-, ⟨B, b1, b2⟩, b3, b5, b7, hL, b8, b9⟩ := hI
  have k : ∀ j, j < 650 → fu_t j = true → fu_at (1 + (fu_p j).1) (fu_p j).2 = true ∧ fu_at (64 + (fu_p j).1) (fu_p j).2 = true ∧ fu_at (95 + (fu_p j).1) (fu_p j).2 = true ∧ fu_at 260 j = true ∧ fu_at 261 j = true ∧ fu_at 261 (650 + j) = true := fun j hj ht => by
    have := fu_ats j hj
    rw [ht] at this
    simpa only [Bool.not_true, Bool.false_or, Bool.and_eq_true] using this
  have r : ∀ {c i : Nat}, fu_at c i = true → h' c i = h c i := fun ha => fu_at_r hd hfr ha
  have kl : ∀ i, i < 5 → fu_at 260 (0 + 150 + i) = true ∧ fu_at 261 (0 + 150 + i) = true ∧ fu_at 261 (650 + 150 + i) = true := by decide +kernel
  refine ⟨hw, ⟨B, fun j hj ht => (r (k j hj ht).1).trans (b1 j hj ht), fun j hj ht => (r (k j hj ht).2.2.2.1).trans (b2 j hj ht)⟩, ?_, ?_, fun i hi => ?_, ?_, ?_, ?_⟩
  · rcases b3 with q | ⟨B1, b3, b4⟩
    · exact Or.inl ((r (by decide +kernel)).trans q)
    · refine Or.inr ⟨B1, fun j hj ht => (r (k j hj ht).2.1).trans (b3 j hj ht), fun j hj ht => ?_⟩
      rw [Nat.zero_add]
      have := b4 j hj ht
      rw [Nat.zero_add] at this
      exact (r (k j hj ht).2.2.2.2.1).trans this
  · rcases b5 with q | ⟨B2, b5, b6⟩
    · exact Or.inl ((r (by decide +kernel)).trans q)
    · exact Or.inr ⟨B2, fun j hj ht => (r (k j hj ht).2.2.1).trans (b5 j hj ht), fun j hj ht => (r (k j hj ht).2.2.2.2.2).trans (b6 j hj ht)⟩
  · rw [r ((show ∀ i, i < 2 → fu_at 126 i = true by decide +kernel) i hi), r ((show ∀ i, i < 2 → fu_at 262 i = true by decide +kernel) i hi)]
    exact b7 i hi
  · exact kI_eq (r (by decide +kernel)) (fun i hi => r (kl i hi).1) hL
  · exact kI_eq (r (by decide +kernel)) (fun i hi => r (kl i hi).2.1) b8
  · exact kI_eq (r (by decide +kernel)) (fun i hi => r (kl i hi).2.2) b9
def fU_i (p : kd_P) : Bool := (match p.1 with
  | some (0, _, _) => true
  | _ => false) && fu_dis p.2.2
def fU_j (p : kd_P) : Bool := (match p.1 with
  | some (2, _, _) => true
  | _ => false) && fu_dis p.2.2
def fU_Qi : Option kc_V → kc_H → Prop := fun rv h' => (∃ z : Int32, rv = some (.inl z)) ∧ fu_I h'
def fU_Qj : Option kc_V → kc_H → Prop := fun rv h' => (∃ z : Int64, rv = some (.inr (.inl z))) ∧ fu_I h'
theorem fU_ii {g : kc_G} {d id : Nat} {T : kd_Tc} (hh : kd_hold g d kd_ty id T) (hc : T.2.2.all fU_i = true) {xs : List kc_V} {h : kc_H} (hI : fu_I h) (hv : wk_f2 (kd_g 0 (fun _ => 0)) T.1 xs) (hF : kd_gF 0 (fun _ => 0) T.2.1 h) : kc_Con g d id xs h fU_Qi := by
  refine kc_Con_mono (hh xs h hI.1 hv hF) (fun rv h' hq => ?_)
  obtain ⟨p, p1, p2, -, p4, p5⟩ := hq
  have hp := List.all_eq_true.mp hc p p1
  unfold fU_i at hp
  rw [Bool.and_eq_true] at hp
  refine ⟨?_, fu_fr hp.2 p5 p4 hI⟩
  obtain ⟨r, F, V⟩ := p
  match r, rv, hp.1, p2 with
  | some (0, a, b), some y, _, p2 => obtain ⟨z, rfl, -, -⟩ := p2; exact ⟨z, rfl⟩
  | some (0, _, _), none, _, p2 => exact p2.elim
  | some (_ + 1, _, _), _, q, _ => cases q
  | none, _, q, _ => cases q
theorem fU_jj {g : kc_G} {d id : Nat} {T : kd_Tc} (hh : kd_hold g d kd_ty id T) (hc : T.2.2.all fU_j = true) {xs : List kc_V} {h : kc_H} (hI : fu_I h) (hv : wk_f2 (kd_g 0 (fun _ => 0)) T.1 xs) (hF : kd_gF 0 (fun _ => 0) T.2.1 h) : kc_Con g d id xs h fU_Qj := by
  refine kc_Con_mono (hh xs h hI.1 hv hF) (fun rv h' hq => ?_)
  obtain ⟨p, p1, p2, -, p4, p5⟩ := hq
  have hp := List.all_eq_true.mp hc p p1
  unfold fU_j at hp
  rw [Bool.and_eq_true] at hp
  refine ⟨?_, fu_fr hp.2 p5 p4 hI⟩
  obtain ⟨r, F, V⟩ := p
  match r, rv, hp.1, p2 with
  | some (2, a, b), some y, _, p2 => obtain ⟨z, rfl, -, -⟩ := p2; exact ⟨z, rfl⟩
  | some (2, _, _), none, _, p2 => exact p2.elim
  | some (0, _, _), _, q, _ => cases q
  | some (1, _, _), _, q, _ => cases q
  | some (_ + 3, _, _), _, q, _ => cases q
  | none, _, q, _ => cases q
theorem fU_cfault {g : kc_G} {h : kc_H} {a : Int32} (hg : kc_ok g) (hI : fu_I h) : kc_Con g 30 60 [.inr (.inr (.inl (some 0))), .inl a] h fU_Qi := kc_Con_le (fU_ii (kd_h60 hg) (by decide +kernel) hI ⟨⟨0, rfl, by decide, by decide⟩, kO_a a, trivial⟩ (fun q hq => by cases hq)) (by decide)
theorem fU_rfault {g : kc_G} {h : kc_H} {a : Int32} (hg : kc_ok g) (hI : fu_I h) : kc_Con g 30 63 [.inr (.inr (.inl (some 259))), .inl a] h fU_Qi := kc_Con_le (fU_ii (kd_h63 hg) (by decide +kernel) hI ⟨⟨259, rfl, by decide, by decide⟩, kO_a a, trivial⟩ (fun q hq => by cases hq)) (by decide)
theorem fU_crun {g : kc_G} {h : kc_H} {a : Int32} (hg : kc_ok g) (hI : fu_I h) : kc_Con g 30 72 [.inr (.inr (.inl (some 0))), .inl a] h fU_Qi := kc_Con_le (fU_ii (kd_h72 hg) (by decide +kernel) hI ⟨⟨0, rfl, by decide, by decide⟩, kO_a a, trivial⟩ (fun q hq => by cases hq)) (by decide)
theorem fU_rrun {g : kc_G} {h : kc_H} {a : Int32} (hg : kc_ok g) (hI : fu_I h) : kc_Con g 30 77 [.inr (.inr (.inl (some 259))), .inl a] h fU_Qi := kc_Con_le (fU_ii (kd_h77 hg) (by decide +kernel) hI ⟨⟨259, rfl, by decide, by decide⟩, kO_a a, trivial⟩ (fun q hq => by cases hq)) (by decide)
theorem fU_cside {g : kc_G} {h : kc_H} {a b c : Int32} (hg : kc_ok g) (hI : fu_I h) : kc_Con g 30 80 [.inr (.inr (.inl (some 0))), .inl a, .inl b, .inl c] h fU_Qi := kc_Con_le (fU_ii (kd_h80 hg) (by decide +kernel) hI ⟨⟨0, rfl, by decide, by decide⟩, kO_a a, kO_a b, kO_a c, trivial⟩ (fun q hq => by cases hq)) (by decide)
theorem fU_rside {g : kc_G} {h : kc_H} {a b c : Int32} (hg : kc_ok g) (hI : fu_I h) : kc_Con g 30 81 [.inr (.inr (.inl (some 259))), .inl a, .inl b, .inl c] h fU_Qi := kc_Con_le (fU_ii (kd_h81 hg) (by decide +kernel) hI ⟨⟨259, rfl, by decide, by decide⟩, kO_a a, kO_a b, kO_a c, trivial⟩ (fun q hq => by cases hq)) (by decide)
theorem fU_cwhere {g : kc_G} {h : kc_H} {a : Int32} (hg : kc_ok g) (hI : fu_I h) : kc_Con g 30 83 [.inr (.inr (.inl (some 0))), .inl a] h fU_Qi := kc_Con_le (fU_ii (kd_h83 hg) (by decide +kernel) hI ⟨⟨0, rfl, by decide, by decide⟩, kO_a a, trivial⟩ (fun q hq => by cases hq)) (by decide)
theorem fU_rwhere {g : kc_G} {h : kc_H} {a : Int32} (hg : kc_ok g) (hI : fu_I h) : kc_Con g 30 84 [.inr (.inr (.inl (some 259))), .inl a] h fU_Qi := kc_Con_le (fU_ii (kd_h84 hg) (by decide +kernel) hI ⟨⟨259, rfl, by decide, by decide⟩, kO_a a, trivial⟩ (fun q hq => by cases hq)) (by decide)
theorem fU_chalves {g : kc_G} {h : kc_H} {a b : Int32} (hg : kc_ok g) (hI : fu_I h) : kc_Con g 30 85 [.inr (.inr (.inl (some 0))), .inl a, .inl b] h fU_Qi := kc_Con_le (fU_ii (kd_h85 hg) (by decide +kernel) hI ⟨⟨0, rfl, by decide, by decide⟩, kO_a a, kO_a b, trivial⟩ (fun q hq => by cases hq)) (by decide)
theorem fU_rhalves {g : kc_G} {h : kc_H} {a b : Int32} (hg : kc_ok g) (hI : fu_I h) : kc_Con g 30 87 [.inr (.inr (.inl (some 259))), .inl a, .inl b] h fU_Qi := kc_Con_le (fU_ii (kd_h87 hg) (by decide +kernel) hI ⟨⟨259, rfl, by decide, by decide⟩, kO_a a, kO_a b, trivial⟩ (fun q hq => by cases hq)) (by decide)
theorem fU_cwithin {g : kc_G} {h : kc_H} {a b : Int32} (hg : kc_ok g) (hI : fu_I h) : kc_Con g 30 89 [.inr (.inr (.inl (some 0))), .inl a, .inl b] h fU_Qi := kc_Con_le (fU_ii (kd_h89 hg) (by decide +kernel) hI ⟨⟨0, rfl, by decide, by decide⟩, kO_a a, kO_a b, trivial⟩ (fun q hq => by cases hq)) (by decide)
theorem fU_rwithin {g : kc_G} {h : kc_H} {a b : Int32} (hg : kc_ok g) (hI : fu_I h) : kc_Con g 30 90 [.inr (.inr (.inl (some 259))), .inl a, .inl b] h fU_Qi := kc_Con_le (fU_ii (kd_h90 hg) (by decide +kernel) hI ⟨⟨259, rfl, by decide, by decide⟩, kO_a a, kO_a b, trivial⟩ (fun q hq => by cases hq)) (by decide)
theorem fU_chang {g : kc_G} {h : kc_H} {a b c : Int32} (hg : kc_ok g) (hI : fu_I h) : kc_Con g 30 91 [.inr (.inr (.inl (some 0))), .inl a, .inl b, .inl c] h fU_Qi := kc_Con_le (fU_ii (kd_h91 hg) (by decide +kernel) hI ⟨⟨0, rfl, by decide, by decide⟩, kO_a a, kO_a b, kO_a c, trivial⟩ (fun q hq => by cases hq)) (by decide)
theorem fU_rhang {g : kc_G} {h : kc_H} {a b c : Int32} (hg : kc_ok g) (hI : fu_I h) : kc_Con g 30 92 [.inr (.inr (.inl (some 259))), .inl a, .inl b, .inl c] h fU_Qi := kc_Con_le (fU_ii (kd_h92 hg) (by decide +kernel) hI ⟨⟨259, rfl, by decide, by decide⟩, kO_a a, kO_a b, kO_a c, trivial⟩ (fun q hq => by cases hq)) (by decide)
theorem fU_cborne {g : kc_G} {h : kc_H} (hg : kc_ok g) (hI : fu_I h) : kc_Con g 30 97 [.inr (.inr (.inl (some 0)))] h fU_Qi := kc_Con_le (fU_ii (kd_h97 hg) (by decide +kernel) hI ⟨⟨0, rfl, by decide, by decide⟩, trivial⟩ (fun q hq => by cases hq)) (by decide)
theorem fU_rborne {g : kc_G} {h : kc_H} (hg : kc_ok g) (hI : fu_I h) : kc_Con g 30 103 [.inr (.inr (.inl (some 259)))] h fU_Qi := kc_Con_le (fU_ii (kd_h103 hg) (by decide +kernel) hI ⟨⟨259, rfl, by decide, by decide⟩, trivial⟩ (fun q hq => by cases hq)) (by decide)
theorem fU_cworst {g : kc_G} {h : kc_H} (hg : kc_ok g) (hI : fu_I h) : kc_Con g 30 107 [.inr (.inr (.inl (some 0)))] h fU_Qi := kc_Con_le (fU_ii (kd_h107 hg) (by decide +kernel) hI ⟨⟨0, rfl, by decide, by decide⟩, trivial⟩ (fun q hq => by cases hq)) (by decide)
theorem fU_rworst {g : kc_G} {h : kc_H} (hg : kc_ok g) (hI : fu_I h) : kc_Con g 30 109 [.inr (.inr (.inl (some 259)))] h fU_Qi := kc_Con_le (fU_ii (kd_h109 hg) (by decide +kernel) hI ⟨⟨259, rfl, by decide, by decide⟩, trivial⟩ (fun q hq => by cases hq)) (by decide)
theorem fU_clonger {g : kc_G} {h : kc_H} (hg : kc_ok g) (hI : fu_I h) : kc_Con g 30 111 [.inr (.inr (.inl (some 0)))] h fU_Qi := kc_Con_le (fU_ii (kd_h111 hg) (by decide +kernel) hI ⟨⟨0, rfl, by decide, by decide⟩, trivial⟩ (fun q hq => by cases hq)) (by decide)
theorem fU_rlonger {g : kc_G} {h : kc_H} (hg : kc_ok g) (hI : fu_I h) : kc_Con g 30 113 [.inr (.inr (.inl (some 259)))] h fU_Qi := kc_Con_le (fU_ii (kd_h113 hg) (by decide +kernel) hI ⟨⟨259, rfl, by decide, by decide⟩, trivial⟩ (fun q hq => by cases hq)) (by decide)
theorem fU_cstays {g : kc_G} {h : kc_H} {a : Int32} (hg : kc_ok g) (hI : fu_I h) : kc_Con g 30 114 [.inr (.inr (.inl (some 0))), .inl a] h fU_Qi := kc_Con_le (fU_ii (kd_h114 hg) (by decide +kernel) hI ⟨⟨0, rfl, by decide, by decide⟩, kO_a a, trivial⟩ (fun q hq => by cases hq)) (by decide)
theorem fU_rstays {g : kc_G} {h : kc_H} {a : Int32} (hg : kc_ok g) (hI : fu_I h) : kc_Con g 30 120 [.inr (.inr (.inl (some 259))), .inl a] h fU_Qi := kc_Con_le (fU_ii (kd_h120 hg) (by decide +kernel) hI ⟨⟨259, rfl, by decide, by decide⟩, kO_a a, trivial⟩ (fun q hq => by cases hq)) (by decide)
theorem fU_cbest {g : kc_G} {h : kc_H} {a : Int32} (hg : kc_ok g) (hI : fu_I h) : kc_Con g 30 125 [.inr (.inr (.inl (some 0))), .inl a] h fU_Qi := kc_Con_le (fU_ii (kd_h125 hg) (by decide +kernel) hI ⟨⟨0, rfl, by decide, by decide⟩, kO_a a, trivial⟩ (fun q hq => by cases hq)) (by decide)
theorem fU_rbest {g : kc_G} {h : kc_H} {a : Int32} (hg : kc_ok g) (hI : fu_I h) : kc_Con g 30 129 [.inr (.inr (.inl (some 259))), .inl a] h fU_Qi := kc_Con_le (fU_ii (kd_h129 hg) (by decide +kernel) hI ⟨⟨259, rfl, by decide, by decide⟩, kO_a a, trivial⟩ (fun q hq => by cases hq)) (by decide)
theorem fU_cliftings {g : kc_G} {h : kc_H} (hg : kc_ok g) (hI : fu_I h) : kc_Con g 30 134 [.inr (.inr (.inl (some 0)))] h fU_Qi := kc_Con_le (fU_ii (kd_h134 hg) (by decide +kernel) hI ⟨⟨0, rfl, by decide, by decide⟩, trivial⟩ (fun q hq => by cases hq)) (by decide)
theorem fU_rliftings {g : kc_G} {h : kc_H} (hg : kc_ok g) (hI : fu_I h) : kc_Con g 30 136 [.inr (.inr (.inl (some 259)))] h fU_Qi := kc_Con_le (fU_ii (kd_h136 hg) (by decide +kernel) hI ⟨⟨259, rfl, by decide, by decide⟩, trivial⟩ (fun q hq => by cases hq)) (by decide)
theorem fU_cfewest {g : kc_G} {h : kc_H} (hg : kc_ok g) (hI : fu_I h) : kc_Con g 30 137 [.inr (.inr (.inl (some 0)))] h fU_Qi := kc_Con_le (fU_ii (kd_h137 hg) (by decide +kernel) hI ⟨⟨0, rfl, by decide, by decide⟩, trivial⟩ (fun q hq => by cases hq)) (by decide)
theorem fU_rfewest {g : kc_G} {h : kc_H} (hg : kc_ok g) (hI : fu_I h) : kc_Con g 30 138 [.inr (.inr (.inl (some 259)))] h fU_Qi := kc_Con_le (fU_ii (kd_h138 hg) (by decide +kernel) hI ⟨⟨259, rfl, by decide, by decide⟩, trivial⟩ (fun q hq => by cases hq)) (by decide)
theorem fU_cchance {g : kc_G} {h : kc_H} (hg : kc_ok g) (hI : fu_I h) : kc_Con g 30 139 [.inr (.inr (.inl (some 0)))] h fU_Qi := kc_Con_le (fU_ii (kd_h139 hg) (by decide +kernel) hI ⟨⟨0, rfl, by decide, by decide⟩, trivial⟩ (fun q hq => by cases hq)) (by decide)
theorem fU_rchance {g : kc_G} {h : kc_H} (hg : kc_ok g) (hI : fu_I h) : kc_Con g 30 145 [.inr (.inr (.inl (some 259)))] h fU_Qi := kc_Con_le (fU_ii (kd_h145 hg) (by decide +kernel) hI ⟨⟨259, rfl, by decide, by decide⟩, trivial⟩ (fun q hq => by cases hq)) (by decide)
theorem fU_ckeep {g : kc_G} {h : kc_H} {a : Int32} (hg : kc_ok g) (hI : fu_I h) : kc_Con g 30 151 [.inr (.inr (.inl (some 0))), .inl a] h fU_Qi := kc_Con_le (fU_ii (kd_h151 hg) (by decide +kernel) hI ⟨⟨0, rfl, by decide, by decide⟩, kO_a a, trivial⟩ (fun q hq => by cases hq)) (by decide)
theorem fU_rkeep {g : kc_G} {h : kc_H} {a : Int32} (hg : kc_ok g) (hI : fu_I h) : kc_Con g 30 152 [.inr (.inr (.inl (some 259))), .inl a] h fU_Qi := kc_Con_le (fU_ii (kd_h152 hg) (by decide +kernel) hI ⟨⟨259, rfl, by decide, by decide⟩, kO_a a, trivial⟩ (fun q hq => by cases hq)) (by decide)
theorem fU_calone {g : kc_G} {h : kc_H} {a b c : Int32} (hg : kc_ok g) (hI : fu_I h) : kc_Con g 30 153 [.inr (.inr (.inl (some 0))), .inl a, .inl b, .inl c] h fU_Qi := kc_Con_le (fU_ii (kd_h153 hg) (by decide +kernel) hI ⟨⟨0, rfl, by decide, by decide⟩, kO_a a, kO_a b, kO_a c, trivial⟩ (fun q hq => by cases hq)) (by decide)
theorem fU_ralone {g : kc_G} {h : kc_H} {a b c : Int32} (hg : kc_ok g) (hI : fu_I h) : kc_Con g 30 154 [.inr (.inr (.inl (some 259))), .inl a, .inl b, .inl c] h fU_Qi := kc_Con_le (fU_ii (kd_h154 hg) (by decide +kernel) hI ⟨⟨259, rfl, by decide, by decide⟩, kO_a a, kO_a b, kO_a c, trivial⟩ (fun q hq => by cases hq)) (by decide)
theorem fU_cpart {g : kc_G} {h : kc_H} {a : Int32} (hg : kc_ok g) (hI : fu_I h) : kc_Con g 30 155 [.inr (.inr (.inl (some 0))), .inl a] h fU_Qj := kc_Con_le (fU_jj (kd_h155 hg) (by decide +kernel) hI ⟨⟨0, rfl, by decide, by decide⟩, kO_a a, trivial⟩ (fun q hq => by cases hq)) (by decide)
theorem fU_rpart {g : kc_G} {h : kc_H} {a : Int32} (hg : kc_ok g) (hI : fu_I h) : kc_Con g 30 156 [.inr (.inr (.inl (some 259))), .inl a] h fU_Qj := kc_Con_le (fU_jj (kd_h156 hg) (by decide +kernel) hI ⟨⟨259, rfl, by decide, by decide⟩, kO_a a, trivial⟩ (fun q hq => by cases hq)) (by decide)
theorem fU_cdigest {g : kc_G} {h : kc_H} (hg : kc_ok g) (hI : fu_I h) : kc_Con g 30 165 [.inr (.inr (.inl (some 0)))] h fU_Qj := kc_Con_le (fU_jj (kd_h165 hg) (by decide +kernel) hI ⟨⟨0, rfl, by decide, by decide⟩, trivial⟩ (fun q hq => by cases hq)) (by decide)
theorem fU_rdigest {g : kc_G} {h : kc_H} (hg : kc_ok g) (hI : fu_I h) : kc_Con g 30 170 [.inr (.inr (.inl (some 259)))] h fU_Qj := kc_Con_le (fU_jj (kd_h170 hg) (by decide +kernel) hI ⟨⟨259, rfl, by decide, by decide⟩, trivial⟩ (fun q hq => by cases hq)) (by decide)
