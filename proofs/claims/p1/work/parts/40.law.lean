/-! ===== the law ===== -/
theorem wk_full (x : Int32) : (-2147483648 : Int) ≤ x.toInt ∧ x.toInt ≤ 2147483647 := ⟨Int32.minValue_le_toInt x, Int32.toInt_le x⟩
theorem wk_bx0_r {ρ : Nat → Int32} {a b : Int} (h1 : a ≤ (ρ 5).toInt) (h2 : (ρ 5).toInt ≤ b) : wk_bx ρ (wk_bx0 a b) := by
  intro i p hp
  match i, hp with
  | 0, hp => cases hp; exact wk_full _
  | 1, hp => cases hp; exact wk_full _
  | 2, hp => cases hp; exact wk_full _
  | 3, hp => cases hp; exact wk_full _
  | 4, hp => cases hp; exact wk_full _
  | 5, hp => cases hp; exact ⟨h1, h2⟩
  | _ + 6, hp => cases hp
theorem wk_pre {Lz : Nat} (h : Lz ≤ 5) : wk_preB Lz = true := by
  match Lz, h with
  | 0, _ => exact wk_pre0
  | 1, _ => exact wk_pre1
  | 2, _ => exact wk_pre2
  | 3, _ => exact wk_pre3
  | 4, _ => exact wk_pre4
  | 5, _ => exact wk_pre5
  | _ + 6, h => omega
theorem wk_cases {j : Nat} (h : j < 64) (h33 : ¬ j = 33) : ∃ a b : Int, a ≤ (j : Int) ∧ (j : Int) ≤ b ∧ wk_caseB 5 a b = true := by
  rcases Nat.lt_or_ge j 37 with h1 | h1
  · match j, h1 with
    | 0, _ => exact ⟨0, 0, by decide, by decide, wk_k0⟩
    | 1, _ => exact ⟨1, 1, by decide, by decide, wk_k1⟩
    | 2, _ => exact ⟨2, 2, by decide, by decide, wk_k2⟩
    | 3, _ => exact ⟨3, 3, by decide, by decide, wk_k3⟩
    | 4, _ => exact ⟨4, 4, by decide, by decide, wk_k4⟩
    | 5, _ => exact ⟨5, 5, by decide, by decide, wk_k5⟩
    | 6, _ => exact ⟨6, 6, by decide, by decide, wk_k6⟩
    | 7, _ => exact ⟨7, 7, by decide, by decide, wk_k7⟩
    | 8, _ => exact ⟨8, 8, by decide, by decide, wk_k8⟩
    | 9, _ => exact ⟨9, 9, by decide, by decide, wk_k9⟩
    | 10, _ => exact ⟨10, 10, by decide, by decide, wk_k10⟩
    | 11, _ => exact ⟨11, 11, by decide, by decide, wk_k11⟩
    | 12, _ => exact ⟨12, 12, by decide, by decide, wk_k12⟩
    | 13, _ => exact ⟨13, 13, by decide, by decide, wk_k13⟩
    | 14, _ => exact ⟨14, 14, by decide, by decide, wk_k14⟩
    | 15, _ => exact ⟨15, 15, by decide, by decide, wk_k15⟩
    | 16, _ => exact ⟨16, 16, by decide, by decide, wk_k16⟩
    | 17, _ => exact ⟨17, 17, by decide, by decide, wk_k17⟩
    | 18, _ => exact ⟨18, 18, by decide, by decide, wk_k18⟩
    | 19, _ => exact ⟨19, 19, by decide, by decide, wk_k19⟩
    | 20, _ => exact ⟨20, 20, by decide, by decide, wk_k20⟩
    | 21, _ => exact ⟨21, 21, by decide, by decide, wk_k21⟩
    | 22, _ => exact ⟨22, 22, by decide, by decide, wk_k22⟩
    | 23, _ => exact ⟨23, 23, by decide, by decide, wk_k23⟩
    | 24, _ => exact ⟨24, 24, by decide, by decide, wk_k24⟩
    | 25, _ => exact ⟨25, 25, by decide, by decide, wk_k25⟩
    | 26, _ => exact ⟨26, 26, by decide, by decide, wk_k26⟩
    | 27, _ => exact ⟨27, 27, by decide, by decide, wk_k27⟩
    | 28, _ => exact ⟨28, 28, by decide, by decide, wk_k28⟩
    | 29, _ => exact ⟨29, 29, by decide, by decide, wk_k29⟩
    | 30, _ => exact ⟨30, 30, by decide, by decide, wk_k30⟩
    | 31, _ => exact ⟨31, 31, by decide, by decide, wk_k31⟩
    | 32, _ => exact ⟨32, 32, by decide, by decide, wk_k32⟩
    | 33, _ => exact absurd rfl h33
    | 34, _ => exact ⟨34, 34, by decide, by decide, wk_k34⟩
    | 35, _ => exact ⟨35, 35, by decide, by decide, wk_k35⟩
    | 36, _ => exact ⟨36, 36, by decide, by decide, wk_k36⟩
    | _ + 37, h => omega
  · exact ⟨37, 63, by omega, by omega, wk_k37⟩
theorem wk_bx1_r {ρ : Nat → Int32} {p q : Int × Int} (h1 : p.1 ≤ (ρ 1).toInt) (h2 : (ρ 1).toInt ≤ p.2) (h3 : q.1 ≤ (ρ 5).toInt) (h4 : (ρ 5).toInt ≤ q.2) : wk_bx ρ (wk_bx1 p q) := by
  intro i r hp
  match i, hp with
  | 0, hp => cases hp; exact wk_full _
  | 1, hp => cases hp; exact ⟨h1, h2⟩
  | 2, hp => cases hp; exact wk_full _
  | 3, hp => cases hp; exact wk_full _
  | 4, hp => cases hp; exact wk_full _
  | 5, hp => cases hp; exact ⟨h3, h4⟩
  | _ + 6, hp => cases hp
theorem wk_case33 {ρ : Nat → Int32} (h : (ρ 5).toInt = 33) : ∃ iv, wk_bx ρ iv ∧ wk_caseV iv = true := by
  have hf := wk_full (ρ 1)
  have h5 : (33 : Int) ≤ (ρ 5).toInt ∧ (ρ 5).toInt ≤ 33 := by omega
  by_cases a : (ρ 1).toInt ≤ -1
  · exact ⟨_, wk_bx1_r hf.1 a h5.1 h5.2, wk_k33a⟩
  by_cases b : (ρ 1).toInt = 0
  · exact ⟨_, wk_bx1_r (p := (0, 0)) (by simp only; omega) (by simp only; omega) h5.1 h5.2, wk_k33b⟩
  by_cases c : (ρ 1).toInt = 1
  · exact ⟨_, wk_bx1_r (p := (1, 1)) (by simp only; omega) (by simp only; omega) h5.1 h5.2, wk_k33c⟩
  · exact ⟨_, wk_bx1_r (p := (2, 2147483647)) (by simp only; omega) hf.2 h5.1 h5.2, wk_k33d⟩
theorem wk_short {Lz : Nat} (h : Lz < 5) : wk_caseB Lz 0 63 = true := by
  match Lz, h with
  | 0, _ => exact wk_kL0
  | 1, _ => exact wk_kL1
  | 2, _ => exact wk_kL2
  | 3, _ => exact wk_kL3
  | 4, _ => exact wk_kL4
  | _ + 5, h => omega
def wk_rho (xs : Nat → Int32) : Nat → Int32 := fun i => if i = 5 then xs 0 &&& 63 else xs i
theorem wk_rho5 (xs : Nat → Int32) : wk_rho xs 5 = xs 0 &&& 63 := rfl
theorem whole_start {p : Program} {e : Env} {s : State} {m : MethodId} {below : List Frame} {meth : Method} {c : Code} (l : Launch) {b L : Nat} {xs : Nat → Int32} (hL : L ≤ 5) (C0 : lw_At p s m meth c b L xs) : W p l e room_1 s m #[Value.ref b] below meth c s.heap [] 0 0 (lw_Z below #[Value.ref b] s) (entryFrame m ([Value.ref b] : List Value).toArray 4) := by
  obtain ⟨j, hj, ej⟩ := pk_andE (xs 0) (m := 63) 6 (by decide)
  have hj : j < 64 := hj
  have hi : (wk_rho xs 5).toInt = (j : Int) := by
    rw [wk_rho5, ej]
    exact nI_toInt (by omega)
  have h0 : wk_bx (wk_rho xs) (wk_bx0 0 63) := wk_bx0_r (by rw [hi]; omega) (by rw [hi]; omega)
  have hx : ∀ i, i < 5 → wk_rho xs i = xs i := fun i h => if_neg (by omega)
  rcases Nat.lt_or_ge L 5 with h5 | h5
  · obtain ⟨fs, g1, g2⟩ := wk_caseB_r (wk_short h5)
    exact wk_law (ρ := wk_rho xs) hL C0 rfl hx (by decide) (wk_preB_r (wk_pre hL)) h0 g1 h0 g2
  · obtain rfl : L = 5 := by omega
    by_cases h33 : j = 33
    · obtain ⟨iv, q1, q2⟩ := wk_case33 (ρ := wk_rho xs) (by rw [hi, h33]; rfl)
      obtain ⟨fs, g1, g2⟩ := wk_caseV_r q2
      exact wk_law (ρ := wk_rho xs) hL C0 rfl hx (by decide) (wk_preB_r wk_pre5) h0 g1 q1 g2
    obtain ⟨a, b2, k1, k2, k3⟩ := wk_cases hj h33
    obtain ⟨fs, g1, g2⟩ := wk_caseB_r k3
    exact wk_law (ρ := wk_rho xs) hL C0 rfl hx (by decide) (wk_preB_r wk_pre5) h0 g1 (wk_bx0_r (by rw [hi]; exact k1) (by rw [hi]; exact k2)) g2
set_option maxHeartbeats 4000000 in
theorem lw_walk (l : Launch) (b : Addr) (xs : List Int32) : MetFree l x (headSpec (Jvm.Cond.code x code maxLocals ret :: tables_1) room_1) (lw_P b xs) (fun _ _ _ _ _ => True) lw_Q := by
  refine MetFree.of_bodyS (code := code) (maxLocals := maxLocals) (ret := ret) (by decide) ?_ ?_
  · intro args s m h hn
    obtain ⟨meth, c, h1, h2, h3, h4, h5, h6, -, -⟩ := Cond.code_spec hn (atoms_spec (ws := Jvm.Cond.code x code maxLocals ret :: tables_1) h _ List.mem_cons_self)
    exact ⟨meth, c, h1, h2, h3, h4, h5, h6⟩
  · intro p e s m args below meth c s₁ B hml0 hP _
    obtain ⟨rfl, hx, hbd, hgv⟩ := hP
    obtain ⟨scr, harrAt, hlist, hof, hsmall⟩ := hx
    obtain ⟨hcb, hkn, -, -⟩ := State.arrayAt?_spec harrAt
    have hown : s.vm.findClass R_law = some m.cls := findClass_of_methodNamed B.named
    have hts0 : ∀ c ∈ (Jvm.Cond.code x code maxLocals ret :: tables_1), c.before #[Value.ref b] s = true := atoms_spec (ws := Jvm.Cond.code x code maxLocals ret :: tables_1) B.pre
    have hts : ∀ w ∈ lw_tbl, w.before #[Value.ref b] s = true := k2_hts_sels lw_privs (fun w hw => hts0 w (List.mem_cons_of_mem _ hw)) lw_privs_ok
    have hml : c.maxLocals = 4 := B.maxLocals_eq (hts0 _ List.mem_cons_self)
    have X₀ : Stand p l e room_1 s m #[Value.ref b] below meth c s₁ [] 0 0 := Stand.of_body B
    have hh0 : s₁.heap = s.heap := by rw [B.state]; rfl
    have hsz : scr.slots.size = xs.length := by rw [← Array.length_toList, hlist, List.length_map]
    have hval : ∀ j : Nat, j < xs.length → scr.slots[j]? = some (.int (xs.getD j 0)) := fun j hj => by
      rw [← Array.getElem?_toList, hlist]
      simp [hj]
    have hbl : b < s.heap.size := (Array.getElem?_eq_some_iff.mp hcb).1
    have hX : va_X b xs.length (fun j => xs.getD j 0) s s.heap := ⟨scr, hcb, hof, hkn, hsz, hval⟩
    have K : W p l e room_1 s m #[Value.ref b] below meth c s₁.heap [] 0 0 (lw_Z below #[Value.ref b] s) (entryFrame m ([Value.ref b] : List Value).toArray 4) := by
      rw [hh0]
      exact whole_start l hbd ⟨B.exec, B.bytes, B.returns, hml, hown, hts, hX, hbl, B.notSynchronized, (name_of_methodNamed B.named B.method).1⟩
    obtain ⟨t, a1, o, b1, b2, b3⟩ := K s₁ rfl X₀
    exact ⟨t, o, a1, b1, b2, b3⟩
theorem lw_pre_spec {args : Array Value} {s : State} (h : (Jvm.Cond.and given_1 narrow_1).before args s = true) (hr : rest_1_c.before args s = true) : ∃ (b : Addr) (xs : List Int32), lw_P b xs args s := by
  have hs := flat_of_before _ h
  have hq := flat_of_before _ hr
  have hc : (Cond.count 1).before args s = true := hs _ (by decide +kernel)
  have harr : (Cond.arrayOf (.arg 0) .int).before args s = true := hs _ (by decide +kernel)
  have hle : (Cond.le (.length (.arg 0)) (.int 5)).before args s = true := hs _ (by decide +kernel)
  have hlen : (Cond.isInt (.length (.arg 0))).before args s = true := hq _ (by decide +kernel)
  have hall : (Cond.all (.arg 0) (.isInt (.elem (.arg 0) (.index 0)))).before args s = true := hq _ (by decide +kernel)
  obtain ⟨b, xs, hb, hx⟩ := State.ints_of_pre rfl harr hlen hall
  have hsm : xs.length < 2 ^ 31 := hx.choose_spec.2.2.2
  have hev : (Term.length (.arg 0)).eval args s none [] s = some (.int xs.length.toInt32) := hx.length_eval hb
  have hv := Cond.le_ints hev (show (Term.int 5).eval args s none [] s = some (.int 5) from rfl)
  have hd : xs.length.toInt32 ≤ 5 := by
    simpa [Cond.before, Cond.holds, hv] using hle
  have hN : xs.length ≤ 5 := (Int32.ofNat_le_ofNat hsm (by decide)).mp (show Int32.ofNat xs.length ≤ Int32.ofNat 5 from hd)
  exact ⟨b, xs, Cond.one_arg hc (show args[0]? = some (.ref b) from hb), hx, hN, h⟩
theorem lw_comes (l : Launch) : Comes l x (Jvm.Cond.code x code maxLocals ret :: tables_1) room_1 (fun tb e args s => Calls_1 tb e args s ∧ rest_1 tb e args s ∧ Pre_1 tb e args s)
    (fun _ _ args s o t => lw_Q args s o t) := by
  intro p e ha hc hk s m args below hf hfit hheap happ hpre
  obtain ⟨b, xs, hP⟩ := lw_pre_spec hpre.2.2 hpre.2.1
  obtain ⟨k, o, h1, h2, h3, hQ⟩ := lw_walk l b xs p e ha hc hk s m args below hf ((Spec.applies_iff_loose hf).mp happ).1 hP trivial
  exact ⟨k, o, h1, h2, h3, hQ⟩
theorem lw_frame {s t : State} {o : Outcome} {args : Array Value} (h : Framed s o t [] 600000 7302250) :
    Framed s o t (fieldLocs frame_1_writes args s ++ arrayLocs frame_1_arrays args s ++ staticLocs frame_1_statics s) 600000 7302250 := h
theorem lw_limb (L : Cond) (hL : ∀ (args : Array Value) (s t : State), L.after args s (.returned (some (.int 1))) t = true) :
    ArmFor flags0 classFile x code maxLocals ret World_1 tables_1 room_1 Calls_1 rest_1 Pre_1
      (fun tb e a s o t => postC L tb e a s o t ∧ Framed s o t (fieldLocs frame_1_writes a s ++ arrayLocs frame_1_arrays a s ++ staticLocs frame_1_statics s) 600000 7302250) := by
  intro l _ _ _ p e ha hc hk s m args below hf hfit hheap happ hpre
  obtain ⟨k, o, h1, h2, h3, rfl, hF⟩ := lw_comes l p e ha hc hk s m args below hf hfit hheap happ hpre
  exact ⟨k, _, h1, h2, h3, hL args s _, lw_frame hF⟩
theorem i_vc : Claimed_1_1 ∧ Claimed_1_2 := ⟨lw_limb limb_1_1 (fun args s t => by simp [limb_1_1, Cond.after, Cond.holds, Cond.value]), lw_limb limb_1_2 (fun args s t => Cond.after_iff.mpr (by
  first | (rw [show limb_1_2 = Cond.eq .result (.int 1) from rfl, Cond.eq_ints (x := 1) (y := 1) rfl rfl]; simp; done) | (simp [limb_1_2, Cond.value, Term.eval]; done)))⟩
