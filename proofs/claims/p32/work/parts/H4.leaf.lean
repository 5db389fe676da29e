/-! ===== steps, told by the law ===== -/
theorem KS_q {n : Nat} {S S' : zS2} {w a b c : Int32} (q : zq (n + 1) (kpS S n w a b c) (kpS S' n w a b c)) (h : KS n S w a b c) : KS n S' w a b c := by
  obtain ⟨h1, h2, h3, h4, h5, E, h6, h7, h8⟩ := h
  have hn := Nat.lt_succ_self n
  have k1 := kp_at S n w a b c
  have k2 := kp_at S' n w a b c
  have eC : stC (kpS S' n w a b c) n = stC (kpS S n w a b c) n := by unfold stC; rw [k1.2.1, k2.2.1]
  refine ⟨stepV_q q hn h1, stX_q q hn h2, fun z => ?_, KI_zq h4 q, QS_zq h4 h5 q, E, q.now.trans h6, h7, fun z => ?_⟩
  · have z1 : kpS S n w a b c 98 n ≠ 10 := by rw [k1.1]; rw [k2.1] at z; exact z
    exact RI_q (chgF_q q hn h1 z1) (h3 z1)
  · rw [eC]
    exact h8 (by rw [k1.1]; rw [k2.1] at z; exact z)
/-- what comes of a deed: refused, or told as step n with the tokens ks -/
def Did (n : Nat) (S : zS2) (w a b c : Int32) (ks : List Nat) (ref : Prop) (x : Int32) (n' : Nat) (S' : zS2) : Prop := (ref ∧ x = -103 ∧ n' = n ∧ zq n S S') ∨ (¬ ref ∧ n < 40 ∧ n' = n + 1 ∧ x = nI (doF (kpS (ly S n ks) n w a b c) n).2 ∧ KS n (ly S n ks) w a b c ∧ zq (n + 1) (doF (kpS (ly S n ks) n w a b c) n).1 S')
theorem Did.from {n : Nat} {S T : zS2} {w a b c : Int32} {ks : List Nat} {r1 r2 : Prop} {x : Int32} {n' : Nat} {S' : zS2} (h : Did n T w a b c ks r2 x n' S') (q : zq n S T) (hr : r1 ↔ r2) : Did n S w a b c ks r1 x n' S' := by
  rcases h with ⟨h1, h2, h3, h4⟩ | ⟨h1, h2, h3, h4, h5, h6⟩
  · exact Or.inl ⟨hr.mpr h1, h2, h3, zq_trans q h4⟩
  · have k := KS_q (ly_qq (zq_symm q) w a b c) h5
    obtain ⟨d1, d2⟩ := told_q q k.1
    exact Or.inr ⟨fun z => h1 (hr.mp z), h2, h3, by rw [h4, d2], k, zq_trans d1 h6⟩
/-- told again, from a state that is the same -/
theorem Did.again {n : Nat} {S T : zS2} {w a b c : Int32} {ks : List Nat} {r1 r2 : Prop} {x y : Int32} {n' m' : Nat} {S' T' : zS2} (h : Did n S w a b c ks r1 x n' S') (h2 : Did n T w a b c ks r2 y m' T') (q : zq n S T) (hr : r1 ↔ r2) : y = x ∧ m' = n' ∧ zq n' S' T' := by
  have h3 := h2.from q hr
  rcases h with ⟨a1, a2, a3, a4⟩ | ⟨a1, a2, a3, a4, a5, a6⟩
  · rcases h3 with ⟨b1, b2, b3, b4⟩ | ⟨b1, -⟩
    · subst a3; subst b3
      exact ⟨by rw [a2, b2], rfl, zq_trans (zq_symm a4) b4⟩
    · exact absurd a1 b1
  · rcases h3 with ⟨b1, -⟩ | ⟨b1, b2, b3, b4, b5, b6⟩
    · exact absurd b1 a1
    · subst a3; subst b3
      exact ⟨by rw [a4, b4], rfl, zq_trans (zq_symm a6) b6⟩
def DQ (n : Nat) (S : zS2) (w a b c : Int32) (ks : List Nat) (ref : Prop) (μ : zMem) (σ : zS2) (π : zP2) (g : zG2) (x : Int32) (μ' : zMem) : Prop := ∃ n' L' μ1 σ1 π1 g1 S', μ' = zA4 μ1 σ1 π1 g1 ∧ PW n' L' μ1 σ1 π1 S' ∧ zgr μ μ1 ∧ zcl σ σ1 π π1 g g1 ∧ Did n S w a b c ks ref x n' S'
theorem zPf2.cl {σ σ1 : zS2} {π : zP2} {g : zG2} (h : zPf2 σ σ1) : zcl σ σ1 π π g g := fun b a1 _ j => ⟨h b j (by omega) (by omega), rfl, rfl⟩
section ZLF
variable {l : Launch} {Z : zZ} {n L : Nat} {μ : zMem} {σ : zS2} {π : zP2} {g : zG2} {S : zS2}
theorem PW.lyw (h : PW n L μ σ π S) (ks : List Nat) : CW n (ly S n ks) μ σ π := h.cw.zq (ly_q S n ks) (ly_ne S n ks (by decide) 1) (fun i => ly_ne S n ks (by decide) i) (fun k _ => h.s30 k)
theorem PW.stepped (h : PW n L μ σ π S) (hn : n < 40) {w a b c : Int32} {ks : List Nat} (h30 : ks.length ≤ 30) (hK : KS n (ly S n ks) w a b c) {μ1 : zMem} {σ1 : zS2} {π1 : zP2} (hC : CW (n + 1) (doF (kpS (ly S n ks) n w a b c) n).1 μ1 σ1 π1) : PW (n + 1) L μ1 σ1 π1 (doF (kpS (ly S n ks) n w a b c) n).1 := by
  have f := doF_k (kpS (ly S n ks) n w a b c) n
  have hV := (h.cv.lyy ks).keep hn hK
  generalize doF (kpS (ly S n ks) n w a b c) n = d at *
  refine ⟨hV, h.tx.mv ?_ (fun i => ?_), fun k => ?_, hC⟩
  · rw [f 67 1 (zkp_67 (by decide))]
    have : kpS (ly S n ks) n w a b c 67 1 = ly S n ks 67 1 := by simp [kpS, zu]
    rw [this, ly_ne S n ks (by decide)]
  · rw [f 68 i (zkp_tx i), kp_ne _ _ _ _ _ _ (by decide), ly_ne S n ks (by decide)]
  · have : stN d.1 k = stN (ly S n ks) k := by unfold stN; rw [f 104 k (zkp_104 k), kp_ne _ _ _ _ _ _ (by decide)]
    rw [this]
    exact ly_s30 h30 h.s30 k
theorem did_good (h : PW n L μ σ π S) (hn : n < 40) {w a b c : Int32} {ks : List Nat} (h30 : ks.length ≤ 30) (hK : KS n (ly S n ks) w a b c) {ref : Prop} (hr : ¬ ref) (r : Option Value) (μ' : zMem) (q : r = some (.int (nI (doF (kpS (ly S n ks) n w a b c) n).2)) ∧ zKp (n + 1) (doF (kpS (ly S n ks) n w a b c) n).1 μ σ π g μ') : ∃ x, r = some (.int x) ∧ DQ n S w a b c ks ref μ σ π g x μ' := by
  obtain ⟨q1, μ1, σ1, π1, g1, q2, q3, q4, q5⟩ := q
  have hP := h.stepped hn h30 hK q3
  exact ⟨_, q1, n + 1, L, μ1, σ1, π1, g1, _, q2, hP, q4, q5, Or.inr ⟨hr, hn, rfl, rfl, hK, zq_refl _ _⟩⟩
theorem did_bad (h : PW n L μ σ π S) {w a b c : Int32} {ks : List Nat} {ref : Prop} (hr : ref) (r : Option Value) (μ' : zMem) (q : r = some (.int (-103)) ∧ μ' = zA4 μ σ π g) : ∃ x, r = some (.int x) ∧ DQ n S w a b c ks ref μ σ π g x μ' :=
  ⟨-103, q.1, n, L, μ, σ, π, g, S, q.2, h, zgr.rf, zcl.rf, Or.inl ⟨hr, rfl, rfl, zq_refl _ _⟩⟩
theorem did_bad2 (h : PW n L μ σ π S) {w a b c : Int32} {ks : List Nat} {ref : Prop} (hr : ref) (r : Option Value) (μ' : zMem) (q : r = some (.int (-103)) ∧ zKp n S μ σ π g μ') : ∃ x, r = some (.int x) ∧ DQ n S w a b c ks ref μ σ π g x μ' := by
  obtain ⟨q1, μ1, σ1, π1, g1, q2, q3, q4, q5⟩ := q
  exact ⟨-103, q1, n, L, μ1, σ1, π1, g1, S, q2, h.to q3, q4, q5, Or.inl ⟨hr, rfl, rfl, zq_refl _ _⟩⟩
theorem l_hold (hZ : zSt l Z) (hO : zOps Z) (hX : zXs Z) (hN : zNs Z) (h : PW n L μ σ π S) {c : Nat} (hc : c < 12) {v : Int32} (hv : -1000 ≤ v ∧ v ≤ 1000) : zCtW l Z mL_hold hhL_hold 8 1 6 [.ref 0, .int (nI c), .int v] (zA4 μ σ π g) (fun r μ' => ∃ x, r = some (.int x) ∧ DQ n S 1 (nI c) v 0 [] (¬ n < 40) μ σ π g x μ') := by
  by_cases hn : n < 40
  · have hK : KS n (ly S n []) 1 (nI c) v 0 := by
      have hV := h.cv.lyy []
      have k := kp_at (ly S n []) n 1 (nI c) v 0
      refine hV.ks (kp_hold hV.1 hc v) ?_ (fun q => absurd (k.1.symm.trans q) (by decide))
      unfold stX
      rw [k.1, k.2.2.1, k.2.2.2]
      exact ⟨fun _ => vb_k hv, fun q => absurd q (by decide), fun q => absurd q (by decide), fun q => absurd q (by decide), fun q => absurd q (by decide)⟩
    refine w_hold (μ := zA4 μ σ π g) (Q := DQ n S 1 (nI c) v 0 [] (¬ n < 40) μ σ π g) hZ h.cw.k0 (zCt_mono (c_X8_hold hZ hO (h.lyw []) hn hc hv hK) (did_good h hn (by decide) hK ?_))
    exact fun z => z hn
  · exact zCtW_mono (w_hold_ise (a := nI c) (b := v) (μ := zA4 μ σ π g) hZ h.cw.k0 hN (x_X8_hold_3 hZ h.cw hX hc hv h.n40 hn)) (did_bad h hn)
theorem l_read (hZ : zSt l Z) (hO : zOps Z) (hX : zXs Z) (hN : zNs Z) (h : PW n L μ σ π S) {c : Nat} (hc : c < 5) {v : Int32} (hv : -1000 ≤ v ∧ v ≤ 1000) : zCtW l Z mL_read hhL_read 8 1 6 [.ref 0, .int (nI c), .int v] (zA4 μ σ π g) (fun r μ' => ∃ x, r = some (.int x) ∧ DQ n S 3 (nI c) v 0 [] (¬ n < 40) μ σ π g x μ') := by
  by_cases hn : n < 40
  · have hK : KS n (ly S n []) 3 (nI c) v 0 := by
      have hV := h.cv.lyy []
      have k := kp_at (ly S n []) n 3 (nI c) v 0
      refine hV.ks (kp_read hV.1 hc v) ?_ (fun q => absurd (k.1.symm.trans q) (by decide))
      unfold stX
      rw [k.1, k.2.2.1, k.2.2.2]
      exact ⟨fun _ => vb_k hv, fun q => absurd q (by decide), fun q => absurd q (by decide), fun q => absurd q (by decide), fun q => absurd q (by decide)⟩
    refine w_read (μ := zA4 μ σ π g) (Q := DQ n S 3 (nI c) v 0 [] (¬ n < 40) μ σ π g) hZ h.cw.k0 (zCt_mono (c_X8_read hZ hO (h.lyw []) hn hc hv hK) (did_good h hn (by decide) hK ?_))
    exact fun z => z hn
  · exact zCtW_mono (w_read_ise (a := nI c) (b := v) (μ := zA4 μ σ π g) hZ h.cw.k0 hN (x_X8_read_3 hZ h.cw hX hc hv h.n40 hn)) (did_bad h hn)
theorem l_control (hZ : zSt l Z) (hO : zOps Z) (hX : zXs Z) (hN : zNs Z) (h : PW n L μ σ π S) {c : Nat} (hc : c < 5) {v : Int32} (hv : okC v) : zCtW l Z mL_control hhL_control 8 1 6 [.ref 0, .int (nI c), .int v] (zA4 μ σ π g) (fun r μ' => ∃ x, r = some (.int x) ∧ DQ n S 4 (nI c) v 0 [] (¬ n < 40) μ σ π g x μ') := by
  by_cases hn : n < 40
  · have hK : KS n (ly S n []) 4 (nI c) v 0 := by
      have hV := h.cv.lyy []
      have k := kp_at (ly S n []) n 4 (nI c) v 0
      refine hV.ks (kp_control hV.1 hc hv) ?_ (fun q => absurd (k.1.symm.trans q) (by decide))
      unfold stX
      rw [k.1, k.2.2.1, k.2.2.2]
      exact ⟨fun q => absurd q (by decide), fun q => absurd q (by decide), fun q => absurd q (by decide), fun _ => hv, fun q => absurd q (by decide)⟩
    refine w_control (μ := zA4 μ σ π g) (Q := DQ n S 4 (nI c) v 0 [] (¬ n < 40) μ σ π g) hZ h.cw.k0 (zCt_mono (c_X8_control hZ hO (h.lyw []) hn hc hv hK) (did_good h hn (by decide) hK ?_))
    exact fun z => z hn
  · exact zCtW_mono (w_control_ise (a := nI c) (b := v) (μ := zA4 μ σ π g) hZ h.cw.k0 hN (x_X8_control_3 hZ h.cw hX hc hv h.n40 hn)) (did_bad h hn)
theorem l_limit (hZ : zSt l Z) (hO : zOps Z) (hX : zXs Z) (hN : zNs Z) (h : PW n L μ σ π S) {c : Nat} (hc : c < 5) {v : Int32} (hv : okC v) : zCtW l Z mL_limit hhL_limit 8 1 6 [.ref 0, .int (nI c), .int v] (zA4 μ σ π g) (fun r μ' => ∃ x, r = some (.int x) ∧ DQ n S 5 (nI c) v 0 [] (¬ n < 40) μ σ π g x μ') := by
  by_cases hn : n < 40
  · have hK : KS n (ly S n []) 5 (nI c) v 0 := by
      have hV := h.cv.lyy []
      have k := kp_at (ly S n []) n 5 (nI c) v 0
      refine hV.ks (kp_limit hV.1 hc hv) ?_ (fun q => absurd (k.1.symm.trans q) (by decide))
      unfold stX
      rw [k.1, k.2.2.1, k.2.2.2]
      exact ⟨fun q => absurd q (by decide), fun q => absurd q (by decide), fun q => absurd q (by decide), fun _ => hv, fun q => absurd q (by decide)⟩
    refine w_limit (μ := zA4 μ σ π g) (Q := DQ n S 5 (nI c) v 0 [] (¬ n < 40) μ σ π g) hZ h.cw.k0 (zCt_mono (c_X8_limit hZ hO (h.lyw []) hn hc hv hK) (did_good h hn (by decide) hK ?_))
    exact fun z => z hn
  · exact zCtW_mono (w_limit_ise (a := nI c) (b := v) (μ := zA4 μ σ π g) hZ h.cw.k0 hN (x_X8_limit_3 hZ h.cw hX hc hv h.n40 hn)) (did_bad h hn)
theorem l_demand (hZ : zSt l Z) (hO : zOps Z) (hX : zXs Z) (hN : zNs Z) (h : PW n L μ σ π S) {c : Nat} (hc : c < 5) {v y : Int32} (hv : 0 ≤ v ∧ v ≤ 1000) (hy : 0 ≤ y ∧ y ≤ 10) : zCtW l Z mL_demand hhL_demand 8 1 6 [.ref 0, .int (nI c), .int v, .int y] (zA4 μ σ π g) (fun r μ' => ∃ x, r = some (.int x) ∧ DQ n S 6 (nI c) v y [] (¬ n < 40) μ σ π g x μ') := by
  by_cases hn : n < 40
  · have hK : KS n (ly S n []) 6 (nI c) v y := by
      have hV := h.cv.lyy []
      have k := kp_at (ly S n []) n 6 (nI c) v y
      refine hV.ks (kp_demand hV.1 hc v y) ?_ (fun q => absurd (k.1.symm.trans q) (by decide))
      unfold stX
      rw [k.1, k.2.2.1, k.2.2.2]
      exact ⟨fun q => absurd q (by decide), fun _ => hv, fun q => absurd q (by decide), fun q => absurd q (by decide), fun q => absurd q (by decide)⟩
    refine w_demand (μ := zA4 μ σ π g) (Q := DQ n S 6 (nI c) v y [] (¬ n < 40) μ σ π g) hZ h.cw.k0 (zCt_mono (c_X8_demand hZ hO (h.lyw []) hn hc hv hy hK) (did_good h hn (by decide) hK ?_))
    exact fun z => z hn
  · exact zCtW_mono (w_demand_ise (a := nI c) (b := v) (e := y) (μ := zA4 μ σ π g) hZ h.cw.k0 hN (x_X8_demand_3 hZ h.cw hX hc hv hy h.n40 hn)) (did_bad h hn)
theorem l_need1 (hZ : zSt l Z) (hO : zOps Z) (hX : zXs Z) (hN : zNs Z) (h : PW n L μ σ π S) {c o : Nat} (hc : c < 5) (ho : o < 5) (hne : c ≠ o) : zCtW l Z mL_need hhL_need 8 1 6 [.ref 0, .int (nI c), .int (nI o), .int 1] (zA4 μ σ π g) (fun r μ' => ∃ x, r = some (.int x) ∧ DQ n S 7 (nI c) (nI o) 1 [] (¬ n < 40) μ σ π g x μ') := by
  by_cases hn : n < 40
  · have hK : KS n (ly S n []) 7 (nI c) (nI o) 1 := by
      have hV := h.cv.lyy []
      have k := kp_at (ly S n []) n 7 (nI c) (nI o) 1
      refine hV.ks (kp_need hV.1 hc (nI o) 1) ?_ (fun q => absurd (k.1.symm.trans q) (by decide))
      unfold stX
      rw [k.1, k.2.2.1, k.2.2.2]
      exact ⟨fun q => absurd q (by decide), fun q => absurd q (by decide), fun q => absurd q (by decide), fun q => absurd q (by decide), fun _ => ⟨⟨o, ho, rfl⟩, Or.inr rfl⟩⟩
    refine w_need (μ := zA4 μ σ π g) (Q := DQ n S 7 (nI c) (nI o) 1 [] (¬ n < 40) μ σ π g) hZ h.cw.k0 (zCt_mono (c_X8_need1 hZ hO (h.lyw []) hn hc ho hne (by decide) hK) (did_good h hn (by decide) hK ?_))
    exact fun z => z hn
  · exact zCtW_mono (w_need_ise (a := nI c) (b := nI o) (e := 1) (μ := zA4 μ σ π g) hZ h.cw.k0 hN (x_X8_need_3 hZ h.cw hX hc ho hne (by decide) h.n40 hn)) (did_bad h hn)
theorem l_need0 (hZ : zSt l Z) (hO : zOps Z) (hX : zXs Z) (hN : zNs Z) (h : PW n L μ σ π S) {c o : Nat} (hc : c < 5) (ho : o < 5) (hne : c ≠ o) : zCtW l Z mL_need hhL_need 8 1 6 [.ref 0, .int (nI c), .int (nI o), .int 0] (zA4 μ σ π g) (fun r μ' => ∃ x, r = some (.int x) ∧ DQ n S 7 (nI c) (nI o) 0 [] (¬ n < 40) μ σ π g x μ') := by
  by_cases hn : n < 40
  · have hK : KS n (ly S n []) 7 (nI c) (nI o) 0 := by
      have hV := h.cv.lyy []
      have k := kp_at (ly S n []) n 7 (nI c) (nI o) 0
      refine hV.ks (kp_need hV.1 hc (nI o) 0) ?_ (fun q => absurd (k.1.symm.trans q) (by decide))
      unfold stX
      rw [k.1, k.2.2.1, k.2.2.2]
      exact ⟨fun q => absurd q (by decide), fun q => absurd q (by decide), fun q => absurd q (by decide), fun q => absurd q (by decide), fun _ => ⟨⟨o, ho, rfl⟩, Or.inl rfl⟩⟩
    refine w_need (μ := zA4 μ σ π g) (Q := DQ n S 7 (nI c) (nI o) 0 [] (¬ n < 40) μ σ π g) hZ h.cw.k0 (zCt_mono (c_X8_need0 hZ hO (h.lyw []) hn hc ho hne rfl hK) (did_good h hn (by decide) hK ?_))
    exact fun z => z hn
  · exact zCtW_mono (w_need_ise (a := nI c) (b := nI o) (e := 0) (μ := zA4 μ σ π g) hZ h.cw.k0 hN (x_X8_need_3b hZ h.cw hX hc ho hne rfl h.n40 hn)) (did_bad h hn)
theorem l_lie (hZ : zSt l Z) (hO : zOps Z) (hX : zXs Z) (hN : zNs Z) (h : PW n L μ σ π S) {c : Nat} (hc : c < 5) {v : Int32} (hv : 0 ≤ v ∧ v ≤ 1000) : zCtW l Z mL_lie hhL_lie 8 1 6 [.ref 0, .int (nI c), .int v] (zA4 μ σ π g) (fun r μ' => ∃ x, r = some (.int x) ∧ DQ n S 8 (nI c) v 0 [] (¬ n < 40) μ σ π g x μ') := by
  by_cases hn : n < 40
  · have hK : KS n (ly S n []) 8 (nI c) v 0 := by
      have hV := h.cv.lyy []
      have k := kp_at (ly S n []) n 8 (nI c) v 0
      refine hV.ks (kp_lie hV.1 hc v) ?_ (fun q => absurd (k.1.symm.trans q) (by decide))
      unfold stX
      rw [k.1, k.2.2.1, k.2.2.2]
      exact ⟨fun q => absurd q (by decide), fun q => absurd q (by decide), fun _ => Or.inr hv, fun q => absurd q (by decide), fun q => absurd q (by decide)⟩
    refine w_lie (μ := zA4 μ σ π g) (Q := DQ n S 8 (nI c) v 0 [] (¬ n < 40) μ σ π g) hZ h.cw.k0 (zCt_mono (c_X8_lie hZ hO (h.lyw []) hn hc hv hK) (did_good h hn (by decide) hK ?_))
    exact fun z => z hn
  · exact zCtW_mono (w_lie_ise (a := nI c) (b := v) (μ := zA4 μ σ π g) hZ h.cw.k0 hN (x_X8_lie_3 hZ h.cw hX hc hv h.n40 hn)) (did_bad h hn)
theorem l_lieN (hZ : zSt l Z) (hO : zOps Z) (hX : zXs Z) (hN : zNs Z) (h : PW n L μ σ π S) {c : Nat} (hc : c < 5) : zCtW l Z mL_lie hhL_lie 8 1 6 [.ref 0, .int (nI c), .int (-1)] (zA4 μ σ π g) (fun r μ' => ∃ x, r = some (.int x) ∧ DQ n S 8 (nI c) (-1) 0 [] (¬ n < 40) μ σ π g x μ') := by
  by_cases hn : n < 40
  · have hK : KS n (ly S n []) 8 (nI c) (-1) 0 := by
      have hV := h.cv.lyy []
      have k := kp_at (ly S n []) n 8 (nI c) (-1) 0
      refine hV.ks (kp_lie hV.1 hc (-1)) ?_ (fun q => absurd (k.1.symm.trans q) (by decide))
      unfold stX
      rw [k.1, k.2.2.1, k.2.2.2]
      exact ⟨fun q => absurd q (by decide), fun q => absurd q (by decide), fun _ => Or.inl rfl, fun q => absurd q (by decide), fun q => absurd q (by decide)⟩
    refine w_lie (μ := zA4 μ σ π g) (Q := DQ n S 8 (nI c) (-1) 0 [] (¬ n < 40) μ σ π g) hZ h.cw.k0 (zCt_mono (c_X8_lieN hZ hO (h.lyw []) hn hc hK) (did_good h hn (by decide) hK ?_))
    exact fun z => z hn
  · exact zCtW_mono (w_lie_ise (a := nI c) (b := -1) (μ := zA4 μ σ π g) hZ h.cw.k0 hN (x_X8_lie_3b hZ h.cw hX hc h.n40 hn)) (did_bad h hn)
theorem l_release (hZ : zSt l Z) (hO : zOps Z) (hX : zXs Z) (hN : zNs Z) (h : PW n L μ σ π S) {c : Nat} (hc : c < 12) : zCtW l Z mL_release hhL_release 8 1 6 [.ref 0, .int (nI c)] (zA4 μ σ π g) (fun r μ' => ∃ x, r = some (.int x) ∧ DQ n S 2 (nI c) 0 0 [] (S 80 c = 0 ∨ ¬ n < 40) μ σ π g x μ') := by
  by_cases hp : S 80 c = 0
  · exact zCtW_mono (w_release_ise (a := nI c) (μ := zA4 μ σ π g) hZ h.cw.k0 hN (x_X8_release_2 hZ h.cw hX hc hp)) (did_bad h (Or.inl hp))
  by_cases hn : n < 40
  · have hK : KS n (ly S n []) 2 (nI c) 0 0 := by
      have hV := h.cv.lyy []
      have k := kp_at (ly S n []) n 2 (nI c) 0 0
      refine hV.ks (kp_release hV.1 hc) ?_ (fun q => absurd (k.1.symm.trans q) (by decide))
      unfold stX
      rw [k.1, k.2.2.1, k.2.2.2]
      exact ⟨fun q => absurd q (by decide), fun q => absurd q (by decide), fun q => absurd q (by decide), fun q => absurd q (by decide), fun q => absurd q (by decide)⟩
    refine w_release (μ := zA4 μ σ π g) (Q := DQ n S 2 (nI c) 0 0 [] (S 80 c = 0 ∨ ¬ n < 40) μ σ π g) hZ h.cw.k0 (zCt_mono (c_X8_release hZ hO (h.lyw []) hn hc (by rw [ly_ne S n [] (by decide)]; exact hp) hK) (did_good h hn (by decide) hK ?_))
    rintro (z | z)
    · exact hp z
    · exact z hn
  · exact zCtW_mono (w_release_ise (a := nI c) (μ := zA4 μ σ π g) hZ h.cw.k0 hN (x_X8_release_3 hZ h.cw hX hc hp h.n40 hn)) (did_bad h (Or.inr hn))
theorem l_mend (hZ : zSt l Z) (hO : zOps Z) (hX : zXs Z) (hN : zNs Z) (h : PW n L μ σ π S) {c : Nat} (hc : c < 5) : zCtW l Z mL_mend hhL_mend 8 1 6 [.ref 0, .int (nI c)] (zA4 μ σ π g) (fun r μ' => ∃ x, r = some (.int x) ∧ DQ n S 9 (nI c) 0 0 [] (S 92 c ≠ 3 ∨ ¬ n < 40) μ σ π g x μ') := by
  by_cases hp : S 92 c ≠ 3
  · exact zCtW_mono (w_mend_ise (a := nI c) (μ := zA4 μ σ π g) hZ h.cw.k0 hN (x_X8_mend_2 hZ h.cw hX hc hp)) (did_bad h (Or.inl hp))
  by_cases hn : n < 40
  · have hK : KS n (ly S n []) 9 (nI c) 0 0 := by
      have hV := h.cv.lyy []
      have k := kp_at (ly S n []) n 9 (nI c) 0 0
      refine hV.ks (kp_mend hV.1 hc) ?_ (fun q => absurd (k.1.symm.trans q) (by decide))
      unfold stX
      rw [k.1, k.2.2.1, k.2.2.2]
      exact ⟨fun q => absurd q (by decide), fun q => absurd q (by decide), fun q => absurd q (by decide), fun q => absurd q (by decide), fun q => absurd q (by decide)⟩
    refine w_mend (μ := zA4 μ σ π g) (Q := DQ n S 9 (nI c) 0 0 [] (S 92 c ≠ 3 ∨ ¬ n < 40) μ σ π g) hZ h.cw.k0 (zCt_mono (c_X8_mend hZ hO (h.lyw []) hn hc (by rw [ly_ne S n [] (by decide)]; exact Classical.not_not.mp hp) hK) (did_good h hn (by decide) hK ?_))
    rintro (z | z)
    · exact hp z
    · exact z hn
  · exact zCtW_mono (w_mend_ise (a := nI c) (μ := zA4 μ σ π g) hZ h.cw.k0 hN (x_X8_mend_3 hZ h.cw hX hc (Classical.not_not.mp hp) h.n40 hn)) (did_bad h (Or.inr hn))
theorem l_tick (hZ : zSt l Z) (hO : zOps Z) (hX : zXs Z) (hN : zNs Z) (h : PW n L μ σ π S) {t : Nat} (ht1 : 1 ≤ t) (ht : t ≤ 50) : zCtW l Z mL_tick hhL_tick 8 1 6 [.ref 0, .int (nI t)] (zA4 μ σ π g) (fun r μ' => ∃ x, r = some (.int x) ∧ DQ n S 10 (nI t) 0 0 [] (¬ (S 67 34 + nI t ≤ 2000) ∨ ¬ n < 40) μ σ π g x μ') := by
  have hv : (1 : Int32) ≤ nI t ∧ nI t ≤ 50 := ⟨nI_le (a := 1) (b := t) ht1 (by omega), nI_le (a := t) (b := 50) ht (by decide)⟩
  by_cases hp : ¬ (S 67 34 + nI t ≤ 2000)
  · exact zCtW_mono (w_tick_ise (a := nI t) (μ := zA4 μ σ π g) hZ h.cw.k0 hN (x_X8_tick_2 hZ h.cw hX hv hp)) (did_bad h (Or.inl hp))
  by_cases hn : n < 40
  · have hK : KS n (ly S n []) 10 (nI t) 0 0 := by
      have hV := h.cv.lyy []
      have k := kp_at (ly S n []) n 10 (nI t) 0 0
      refine hV.ks (kp_tick hV.1 ht) ?_ (fun _ E1 e1 e2 => by
        have e4 : stC (kpS (ly S n []) n 10 (nI t) 0 0) n = t := by unfold stC; rw [k.2.1]; exact nI_clamp (by omega)
        rw [e4]
        have hle : S 67 34 + nI t ≤ 2000 := Classical.not_not.mp hp
        rw [← ly_ne S n [] (by decide), e1, nI_add] at hle
        rcases Nat.lt_or_ge 2000 (E1 + t) with z | z
        · exact absurd hle (Int32.not_le.mpr (nI_lt (a := 2000) (b := E1 + t) z (by omega)))
        · exact z)
      unfold stX
      rw [k.1, k.2.2.1, k.2.2.2]
      exact ⟨fun q => absurd q (by decide), fun q => absurd q (by decide), fun q => absurd q (by decide), fun q => absurd q (by decide), fun q => absurd q (by decide)⟩
    refine w_tick (μ := zA4 μ σ π g) (Q := DQ n S 10 (nI t) 0 0 [] (¬ (S 67 34 + nI t ≤ 2000) ∨ ¬ n < 40) μ σ π g) hZ h.cw.k0 (zCt_mono (c_X8_tick hZ hO (h.lyw []) hn hv (by rw [ly_ne S n [] (by decide)]; exact Classical.not_not.mp hp) hK) (did_good h hn (by decide) hK ?_))
    rintro (z | z)
    · exact hp z
    · exact z hn
  · exact zCtW_mono (w_tick_ise (a := nI t) (μ := zA4 μ σ π g) hZ h.cw.k0 hN (x_X8_tick_3 hZ h.cw hX hv (Classical.not_not.mp hp) h.n40 hn)) (did_bad h (Or.inr hn))
/-- a formula, given: the text is one -/
theorem l_formula (hZ : zSt l Z) (hO : zOps Z) (hX : zXs Z) (hN : zNs Z) (h : PW n L μ σ π S) {c : Nat} (hc : c < 12) (hf : fltI (rdF S L) L = -1) {ks : List Nat} (hks : ks = (rdK (rdF S L)).1) : zCtW l Z mL_formula hhL_formula 171 3 38 [.ref 0, .int (nI c)] (zA4 μ σ π g) (fun r μ' => ∃ x, r = some (.int x) ∧ DQ n S 0 (nI c) 0 0 ks (bt (belF S false (pkm ks)) c = true ∨ ¬ n < 40) μ σ π g x μ') := by
  have hL30 := h.tx.2.1
  obtain ⟨d3, d4⟩ := (dR0_ok (S := S) hL30).2 hf
  rw [← hks] at d3
  obtain ⟨ok, od, -⟩ := rdF_ok hL30 hf (fun q hq => rnF_le hL30 31 hq)
  rw [← hks] at ok od
  have htk := okL_t ok
  have h30 : ks.length ≤ 30 := by rw [hks]; exact Nat.le_trans (rdK_len S L) hL30
  have hD : DepthOK S := h.ri.2.1
  by_cases hp : bt (belF S false (pkm ks)) c = true
  · exact zCtW_mono (w_formula_ise (a := nI c) (μ := zA4 μ σ π g) hZ h.cw.k0 hN (x_X8_formula_3 hZ h.cw hX h.tx hc d3 htk hD hp)) (did_bad2 h (Or.inl hp))
  have hh : bt (belF S false (pkm ks)) c = false := by simpa using hp
  by_cases hn : n < 40
  · have hK := KS_ly h.cv hc h30 ok od hh
    refine w_formula (μ := zA4 μ σ π g) (Q := DQ n S 0 (nI c) 0 0 ks (bt (belF S false (pkm ks)) c = true ∨ ¬ n < 40) μ σ π g) hZ h.cw.k0 (zCt_mono (c_X8_formula hZ hO (g := g) h.cw hn h.tx hc d3 htk hD hh (ly_q S n ks) (ly_ne S n ks (by decide) 1) (fun i => ly_ne S n ks (by decide) i) (fun k _ => h.s30 k) (ly_cr S n) (ly_st h30) hK) (did_good h hn h30 hK ?_))
    rintro (z | z)
    · exact hp z
    · exact z hn
  · exact zCtW_mono (w_formula_ise (a := nI c) (μ := zA4 μ σ π g) hZ h.cw.k0 hN (x_X8_formula_4 hZ h.cw hX h.n40 hn h.tx hc d3 htk hD hh)) (did_bad2 h (Or.inr hn))
theorem l_formula_no (hZ : zSt l Z) (hX : zXs Z) (hN : zNs Z) (h : PW n L μ σ π S) {c : Nat} (hc : c < 12) (hf : fltI (rdF S L) L ≠ -1) : zCtW l Z mL_formula hhL_formula 171 3 38 [.ref 0, .int (nI c)] (zA4 μ σ π g) (fun r μ' => r = some (.int (-102)) ∧ zKp n S μ σ π g μ') :=
  w_formula_iae (a := nI c) (μ := zA4 μ σ π g) hZ h.cw.k0 hN (x_X8_formula_2 hZ h.cw hX h.tx hc (by rw [(dR0_ok (S := S) h.tx.2.1).1]; exact hf))
theorem l_formula_12 (hZ : zSt l Z) (hX : zXs Z) (hN : zNs Z) (h : PW n L μ σ π S) : zCtW l Z mL_formula hhL_formula 171 3 38 [.ref 0, .int 12] (zA4 μ σ π g) (fun r μ' => r = some (.int (-101)) ∧ μ' = zA4 μ σ π g) :=
  w_formula_iob (a := 12) (μ := zA4 μ σ π g) hZ h.cw.k0 hN (x_X8_formula_1 hZ h.cw hX (by decide))
end ZLF
