/-! ===== formula ===== -/
theorem zRef.cl {μ μ' : zMem} {σ σc : zS2} {π πc : zP2} {g gc : zG2} (h : zRef μ π) (hn : 107 ≤ zN μ) (hg : zgr μ μ') (hz : zcl σ σc π πc g gc) : zRef μ' πc := by
  refine ⟨(hg.2 67 (by omega)).1.trans h.1, fun j a kd m hx => ?_⟩
  obtain ⟨r1, r2, r3⟩ := h.2 j a kd m hx
  have ha : a < 107 := (by decide : ∀ x, x ∈ zrl → x.2.1 < 107) _ hx
  exact ⟨((hz 67 (by decide) (by decide) j).2.1).trans r1, ((hg.2 a (by omega)).1).trans r2, ((hg.2 a (by omega)).2).trans r3⟩
/-- the step of a formula, on both sides -/
theorem LW.form {n L c : Nat} {μ μ' : zMem} {σ σc S : zS2} {π πc : zP2} {g gc : zG2} {ks : List Nat} (h : LW n L μ σ π) (hn : n < 40) (hc : c < 12) (h30 : ks.length ≤ 30) (ok : okL ks) (od : dL ks = 1) (hb : bt (belF (zR9 σ ks) false (whP (zR9 σ ks) ks.length)) c = false) (hb2 : bt (belF (zu S 67 45 0) false (whP (zu S 67 45 0) ks.length)) c = false)
    (hC : CW (n + 1) (doF (kpS (fmP (zR9 σ ks) n ks.length ks.length) n 0 (nI c) 0 0) n).1 μ' σc πc) (hg : zgr μ μ') (hz : zcl σ σc π πc g gc) (s1 : zpf σc S) (s2 : zOp S 69 ks) :
    LW (n + 1) L μ' (doF (kpS (fmP (zu S 67 45 0) n ks.length ks.length) n 0 (nI c) 0 0) n).1 πc ∧ (doF (kpS (fmP (zu S 67 45 0) n ks.length ks.length) n 0 (nI c) 0 0) n).2 = (doF (kpS (fmP (zR9 σ ks) n ks.length ks.length) n 0 (nI c) 0 0) n).2 ∧ (doF (kpS (fmP (zu S 67 45 0) n ks.length ks.length) n 0 (nI c) 0 0) n).1 67 45 = 0 := by
  have e : ∀ b, 67 ≤ b → b < 107 → ∀ j, σc b j = σ b j := fun b h1 h2 j => (hz b h1 h2 j).1
  have z9 : ∀ b, b ≠ 69 → ∀ j, zR9 σ ks b j = σ b j := fun b hb j => if_neg hb
  obtain ⟨X, hX⟩ : ∃ X, X = zu S 67 45 0 := ⟨_, rfl⟩
  rw [← hX] at hb2 ⊢
  have x1 : ∀ b, b ≠ 67 → ∀ j, X b j = S b j := fun b hb j => by rw [hX]; exact zu_ne _ _ _ _ hb j
  have x7 : ∀ j, j ≠ 45 → X 67 j = S 67 j := fun j hj => by rw [hX]; exact zu_nj _ _ _ _ _ hj
  have x45 : X 67 45 = 0 := by rw [hX]; exact zu_eq _ _ _ _
  have sS : ∀ b, b < 67 ∨ 73 < b → ∀ j, S b j = σc b j := fun b hb j => s1 b j (by omega) (by omega) (by omega) (by omega) (by omega) (by omega)
  have s7 : ∀ j, j ≠ 3 → j ≠ 5 → S 67 j = σc 67 j := fun j h1 h2 => s1 67 j (by decide) (by decide) (by decide) (by decide) (by decide) (by omega)
  have s8 : ∀ j, S 68 j = σc 68 j := fun j => s1 68 j (by decide) (by decide) (by decide) (by decide) (by decide) (by omega)
  have xe : ∀ b, 73 < b → b < 107 → ∀ j, X b j = σ b j := fun b h1 h2 j => (x1 b (by omega) j).trans ((sS b (Or.inr h1) j).trans (e b (by omega) h2 j))
  have xe7 : ∀ j, j ≠ 45 → j ≠ 3 → j ≠ 5 → X 67 j = σ 67 j := fun j h1 h2 h3 => (x7 j h1).trans ((s7 j h2 h3).trans (e 67 (by decide) (by decide) j))
  have qX : zq n σ X := zq_near xe (xe7 33 (by decide) (by decide) (by decide)) (xe7 34 (by decide) (by decide) (by decide))
  have hVX : CV n X := h.2.1.q qX (xe7 42 (by decide) (by decide) (by decide))
  have q9 : zq n σ (zR9 σ ks) := zq_near (fun b h1 _ j => z9 b (by omega) j) (z9 67 (by decide) 33) (z9 67 (by decide) 34)
  have hV9 : CV n (zR9 σ ks) := h.2.1.q q9 (z9 67 (by decide) 42)
  have zX : zOp X 69 ks := zOp_mv s2 (fun j _ => x1 69 (by decide) j)
  have k1 := KS_fm hV9 hc (zOp_ro σ ks) h30 ok od hb
  have k2 := KS_fm hVX hc zX h30 ok od hb2
  have fn : ∀ (Y : zS2) b, b ≠ 103 ∧ b ≠ 104 → ∀ j, fmP Y n ks.length ks.length b j = Y b j := fun Y b hb j => fmP_ne Y n _ _ hb j
  have hV2 : CV n (fmP X n ks.length ks.length) := hVX.q (fmP_q X n _ _) (fn X 67 (by decide) 42)
  have e3 : ∀ j, fmP X n ks.length ks.length 103 j = fmP (zR9 σ ks) n ks.length ks.length 103 j := fun j => by
    unfold fmP
    by_cases q : 30 * n ≤ j ∧ j < 30 * n + ks.length
    · simp only [q, true_and, and_self, if_true]
      exact zOp_eq ks (zOp_ro σ ks) zX _ (by omega)
    · simp only [q, and_false, if_false, show ¬ (103 : Nat) = 104 by decide, false_and]
      exact (xe 103 (by decide) (by decide) j).trans (z9 103 (by decide) j).symm
  have e4 : ∀ j, fmP X n ks.length ks.length 104 j = fmP (zR9 σ ks) n ks.length ks.length 104 j := fun j => by
    unfold fmP
    simp only [show ¬ (104 : Nat) = 103 by decide, false_and, if_false]
    split
    · rfl
    · exact (xe 104 (by decide) (by decide) j).trans (z9 104 (by decide) j).symm
  refine h.keep hn hV2 k1.1 k2 (fun x h1 h2 j => ?_) (fun j a1 a2 a3 => ?_) ((fn _ 67 (by decide) 1).trans (z9 67 (by decide) 1)) (fun j => ⟨?_, ?_⟩) (fun k => ?_) (fun x hx j => ?_) ((fn X 67 (by decide) 45).trans x45) hC hg hz
  · by_cases q3 : x = 103
    · rw [q3]; exact e3 j
    · by_cases q4 : x = 104
      · rw [q4]; exact e4 j
      · rw [fn X x ⟨q3, q4⟩, fn _ x ⟨q3, q4⟩, xe x h1 h2, z9 x (by omega)]
  · rw [fn X 67 (by decide), fn _ 67 (by decide), xe7 j a1 a2 a3, z9 67 (by decide)]
  · rw [fn X 68 (by decide), fn _ 68 (by decide), x1 68 (by decide), s8, e 68 (by decide) (by decide), z9 68 (by decide)]
  · rw [fn _ 68 (by decide), z9 68 (by decide)]
  · unfold stN
    unfold fmP
    simp only [show ¬ (104 : Nat) = 103 by decide, false_and, if_false, true_and]
    split
    · rw [nI_clamp (by omega)]; exact h30
    · rw [z9 104 (by decide)]; exact h.2.2.2.1 k
  · rw [fn X x (by omega), x1 x (by omega), sS x (by omega)]

set_option maxHeartbeats 1000000 in
theorem p_formula {l : Launch} {Z : zZ} (hZ : zSt l Z) (hO : zOps Z) (hX : zXs Z) (hN : zNs Z) (hSs : zSs Z) {n L : Nat} {μ : zMem} {σ : zS2} {π : zP2} {g : zG2} (h : LW n L μ σ π) (h6 : zK μ 106 = 3 ∧ zL μ 106 = 1) (a : Int32) : zPr l Z mL_formula hhL_formula mX9_formula [.ref 0, .int a, .ref 106] [.ref 67, .int a] false (zA4 μ σ π g) := by
  have hT := h.2.2.1
  have hL30 := hT.2.1
  have hn7 := h.cw.nn
  obtain ⟨ks, hks⟩ : ∃ ks, ks = (rdK (rdF σ L)).1 := ⟨_, rfl⟩
  obtain ⟨d1, d2⟩ := dR0_ok (S := σ) hL30
  cases hb : cellB a with
  | false =>
    have hw := w_formula_iob (Q := fun μx => μx = zA4 μ σ π g) (a := a) (μ := zA4 μ σ π g) hZ h.cw.k0 hN (x_X8_formula_1 hZ h.cw hX hb)
    refine pw_no (kx := 8) (t := 1) hw (by decide) (by decide) (fun μx e => ?_)
    subst e
    exact ⟨h.1.1, zCt_mono (c_X9_formula_no1 hZ h.1 hb hT.1 hL30) (fun r μy q => by
      obtain ⟨q1, S, q2, q3⟩ := q
      exact ⟨⟨0, q1⟩, n, L, μ, _, π, g, q3, (h.pf q2).m 45 1 (Or.inr rfl), h6.1, h6.2, zu_eq _ _ _ _⟩)⟩
  | true =>
    obtain ⟨c, hc, rfl⟩ := cell_nI hb
    by_cases hf : fltI (rdF σ L) L = -1
    · obtain ⟨d3, d4⟩ := d2 hf
      rw [← hks] at d3
      obtain ⟨ok, od, -⟩ := rdF_ok hL30 hf (fun q hq => rnF_le hL30 31 hq)
      rw [← hks] at ok od
      have htk := okL_t ok
      have h30 : ks.length ≤ 30 := by rw [hks]; exact Nat.le_trans (rdK_len σ L) hL30
      have hD : DepthOK σ := h.2.1.1.ri.2.1
      have HH : ∀ S, zq n σ S → zOp S 69 ks → bt (belF S false (whP S ks.length)) c = bt (belF σ false (pkm ks)) c := fun S q hz => by
        rw [belF_q q]
        exact (belF_bits σ (wh_pk hz htk) hc).symm
      by_cases hh : bt (belF σ false (pkm ks)) c = true
      · have hw := w_formula_ise (Q := fun μx => zKp n σ μ σ π g μx) (a := nI c) (μ := zA4 μ σ π g) hZ h.cw.k0 hN (x_X8_formula_3 hZ h.cw hX hT hc d3 htk hD hh)
        refine pw_no (kx := 8) (t := 3) hw (by decide) (by decide) (fun μx e => ?_)
        obtain ⟨μ', σ', π', gc, rfl, hC, hg, hz⟩ := e
        have h2 := h.cl hg hC hz
        have er : rdF σ' L = rdF σ L := rdF_mv (fun j => (hz 68 (by decide) (by decide) j).1) L
        exact ⟨h2.1.1, zCt_mono (c_X9_formula_no3 hZ h2.1 h2.2.1.1 hc h2.2.2.1.1 hL30 (by rw [er]; exact hf) (fun S q1 q2 => by
          rw [er, ← hks] at q2 ⊢
          rw [HH S (zq_trans (qcl (fun b a1 a2 j => (hz b a1 a2 j).1)) (zq_f q1)) q2.2.2.1]
          exact hh)) (fun r μy q => by
          obtain ⟨q1, S, q2, q3⟩ := q
          exact ⟨⟨0, q1⟩, n, L, μ', _, π', gc, q3, (h2.pf q2).m 45 3 (Or.inr rfl), (hg.2 106 (by omega)).1.trans h6.1, (hg.2 106 (by omega)).2.trans h6.2, zu_eq _ _ _ _⟩)⟩
      · have hh0 : bt (belF σ false (pkm ks)) c = false := by simpa using hh
        by_cases hn : n < 40
        · have z9 : ∀ b, b ≠ 69 → ∀ j, zR9 σ ks b j = σ b j := fun b hb j => if_neg hb
          have q9 : zq n σ (zR9 σ ks) := zq_near (fun b h1 _ j => z9 b (by omega) j) (z9 67 (by decide) 33) (z9 67 (by decide) 34)
          have hV9 : CV n (zR9 σ ks) := h.2.1.q q9 (z9 67 (by decide) 42)
          have hb9 : bt (belF (zR9 σ ks) false (whP (zR9 σ ks) ks.length)) c = false := by rw [HH _ q9 (zOp_ro σ ks)]; exact hh0
          have k1 := KS_fm hV9 hc (zOp_ro σ ks) h30 ok od hb9
          have fn : ∀ b, b ≠ 103 ∧ b ≠ 104 → ∀ j, fmP (zR9 σ ks) n ks.length ks.length b j = zR9 σ ks b j := fun b hb j => fmP_ne _ n _ _ hb j
          have sN : stN (fmP (zR9 σ ks) n ks.length ks.length) n = ks.length := by
            unfold stN
            rw [show fmP (zR9 σ ks) n ks.length ks.length 104 n = nI ks.length by simp [fmP]]
            exact nI_clamp (by omega)
          have hct := c_X8_formula hZ hO (g := g) h.cw hn hT hc d3 htk hD hh0 (S1 := fmP (zR9 σ ks) n ks.length ks.length) (zq_trans q9 (fmP_q _ _ _ _)) ((fn 67 (by decide) 1).trans (z9 67 (by decide) 1)) (fun i => (fn 68 (by decide) i).trans (z9 68 (by decide) i)) (fun k _ => h.2.2.2.1 k) (zOp_cr ks (Nat.le_refl _) (zOp_ro σ ks)) sN k1
          refine pw_ok (kx := 8) (Q := fun x μx => x = nI (doF (kpS (fmP (zR9 σ ks) n ks.length ks.length) n 0 (nI c) 0 0) n).2 ∧ zKp (n + 1) (doF (kpS (fmP (zR9 σ ks) n ks.length ks.length) n 0 (nI c) 0 0) n).1 μ σ π g μx) (bo := false) (w_formula (Q := fun x μx => x = nI (doF (kpS (fmP (zR9 σ ks) n ks.length ks.length) n 0 (nI c) 0 0) n).2 ∧ zKp (n + 1) (doF (kpS (fmP (zR9 σ ks) n ks.length ks.length) n 0 (nI c) 0 0) n).1 μ σ π g μx) hZ h.cw.k0 (zCt_mono hct (fun r μ' q => ⟨_, q.1, rfl, q.2⟩)) (kq_out h h6)) (by decide) (fun x μ1 σ1 π1 g1 hq g' => ?_)
          obtain ⟨rfl, μ', σ', π', gc, he, hC, hg, hz⟩ := hq
          obtain ⟨rfl, rfl, -, ek, hm⟩ := zA4_inj he
          rw [hm, ek]
          have hR : zRef μ' π1 := h.1.cl hn7 hg hz
          have e := fun b a1 a2 j => (hz b a1 a2 j).1
          have er : rdF σ1 L = rdF σ L := rdF_mv (e 68 (by decide) (by decide)) L
          have hRV : RV n σ1 := (h.2.1.q (qcl (n := n) e) (e 67 (by decide) (by decide) 42)).1
          exact ⟨hR.1, zCt_mono (c_X9_formula_ok hZ hR hn hRV hc ((e 67 (by decide) (by decide) 1).trans hT.1) hL30 (by rw [er]; exact hf) (fun S q1 q2 => by
            rw [er, ← hks] at q2 ⊢
            rw [HH S (zq_trans (qcl e) (zq_f q1)) q2.2.2.1]
            exact hh0)) (fun r μy q => by
            obtain ⟨S, q1, q2, rfl, g2, e1, e2⟩ := q
            rw [er, ← hks] at q2 e1 ⊢
            have zS : zOp (zu S 67 45 0) 69 ks := zOp_mv q2.2.2.1 (fun j _ => zu_ne _ _ _ _ (by decide) j)
            obtain ⟨l1, l2, l3⟩ := h.form hn hc h30 ok od hb9 (by rw [HH _ (zq_trans (zq_trans (qcl e) (zq_f q1)) (q45 S 0)) zS]; exact hh0) hC hg hz q1 q2.2.2.1
            exact ⟨by rw [l2], n + 1, L, μ', _, _, g2, e1, e2, l1, (hg.2 106 (by omega)).1.trans h6.1, (hg.2 106 (by omega)).2.trans h6.2, l3⟩)⟩
        · have hw := w_formula_ise (Q := fun μx => zKp n σ μ σ π g μx) (a := nI c) (μ := zA4 μ σ π g) hZ h.cw.k0 hN (x_X8_formula_4 hZ h.cw hX h.2.1.1.1 hn hT hc d3 htk hD hh0)
          refine pw_no (kx := 8) (t := 3) hw (by decide) (by decide) (fun μx e => ?_)
          obtain ⟨μ', σ', π', gc, rfl, hC, hg, hz⟩ := e
          have h2 := h.cl hg hC hz
          have er : rdF σ' L = rdF σ L := rdF_mv (fun j => (hz 68 (by decide) (by decide) j).1) L
          exact ⟨h2.1.1, zCt_mono (c_X9_formula_no4 hZ h2.1 h2.2.1.1 hn hc h2.2.2.1.1 hL30 (by rw [er]; exact hf) (fun S q1 q2 => by
            rw [er, ← hks] at q2 ⊢
            rw [HH S (zq_trans (qcl (fun b a1 a2 j => (hz b a1 a2 j).1)) (zq_f q1)) q2.2.2.1]
            exact hh0)) (fun r μy q => by
            obtain ⟨q1, S, q2, q3⟩ := q
            exact ⟨⟨0, q1⟩, n, L, μ', _, π', gc, q3, (h2.pf q2).m 45 3 (Or.inr rfl), (hg.2 106 (by omega)).1.trans h6.1, (hg.2 106 (by omega)).2.trans h6.2, zu_eq _ _ _ _⟩)⟩
    · have hw := w_formula_iae (Q := fun μx => zKp n σ μ σ π g μx) (a := nI c) (μ := zA4 μ σ π g) hZ h.cw.k0 hN (x_X8_formula_2 hZ h.cw hX hT hc (by rw [d1]; exact hf))
      refine pw_no (kx := 8) (t := 2) hw (by decide) (by decide) (fun μx e => ?_)
      obtain ⟨μ', σ', π', gc, rfl, hC, hg, hz⟩ := e
      have h2 := h.cl hg hC hz
      have er : rdF σ' L = rdF σ L := rdF_mv (fun j => (hz 68 (by decide) (by decide) j).1) L
      exact ⟨h2.1.1, zCt_mono (c_X9_formula_no2 hZ h2.1 hc h2.2.2.1.1 hL30 (by rw [er]; exact hf)) (fun r μy q => by
        obtain ⟨q1, S, q2, q3⟩ := q
        exact ⟨⟨0, q1⟩, n, L, μ', _, π', gc, q3, (h2.pf q2).m 45 2 (Or.inr rfl), (hg.2 106 (by omega)).1.trans h6.1, (hg.2 106 (by omega)).2.trans h6.2, zu_eq _ _ _ _⟩)⟩

