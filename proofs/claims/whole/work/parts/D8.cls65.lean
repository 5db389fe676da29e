/-! ===== a call of the law: wrapper and reference agree ===== -/
def vL : Bool → Int32 → Int64
  | true, x => if x = 0 then 0 else 1
  | false, x => x.toInt64
def zEn (bo : Bool) (kind x : Int32) (μy : zMem) : Prop := ∃ n L μ1 σ π g, μy = zA4 μ1 σ π g ∧ LW n L μ1 σ π ∧ zK μ1 106 = 3 ∧ zL μ1 106 = 1 ∧ σ 67 45 = kind ∧ (kind = 0 → g 106 0 = vL bo x)
def zPr (l : Launch) (Z : zZ) (mL : zM) (hh : zHh) (mX : zM) (aL aX : List Value) (bo : Bool) (μ0 : zMem) : Prop := ∃ (kind : Int32) (k kx mc ms : Nat) (R : zMem → Prop), (k ≤ 190 ∧ kx ≤ 190 ∧ mc ≤ 3 ∧ ms ≤ 38) ∧ zCtW l Z mL hh k mc ms aL μ0 (fun r μ' => r = some (.int kind) ∧ R μ') ∧ ∀ μ', R μ' → zK μ' 67 = 9 + 8 ∧ zCt l Z mX kx 0 0 aX μ' (fun r μy => ∃ x, r = some (.int x) ∧ zEn bo kind x μy)
theorem zA4_inj {μ1 μ2 : zMem} {σ1 σ2 : zS2} {π1 π2 : zP2} {g1 g2 : zG2} (h : zA4 μ1 σ1 π1 g1 = zA4 μ2 σ2 π2 g2) : σ1 = σ2 ∧ π1 = π2 ∧ g1 = g2 ∧ zK μ1 = zK μ2 ∧ ∀ σ π g, zA4 μ1 σ π g = zA4 μ2 σ π g := by
  unfold zA4 at *
  injection h with h1 h
  injection h with h2 h
  injection h with h3 h
  injection h with h4 h
  injection h with h5 h6
  exact ⟨h4, h5, h6, h2, fun _ _ _ => by rw [h1, h2, h3]⟩
theorem zug_eq (g : zG2) (a i : Nat) (v : Int64) : zug g a i v a i = v := if_pos ⟨rfl, rfl⟩
section ZPR
variable {l : Launch} {Z : zZ} {mL mX : zM} {hh : zHh} {aL aX : List Value} {bo : Bool} {k kx mc ms n L : Nat} {μ μ0 : zMem} {σ : zS2} {π : zP2} {g : zG2}
theorem pw_ok {Q : Int32 → zMem → Prop} (hw : zCtW l Z mL hh k mc ms aL μ0 (fun r μx => r = some (.int 0) ∧ ∃ x μ1 σ1 π1 g1, Q x (zA4 μ1 σ1 π1 g1) ∧ μx = zA4 μ1 σ1 π1 (zug g1 106 0 (vL bo x)))) (hb : k ≤ 190 ∧ kx ≤ 190 ∧ mc ≤ 3 ∧ ms ≤ 38)
    (hx : ∀ x μ1 σ1 π1 g1, Q x (zA4 μ1 σ1 π1 g1) → ∀ g', zK μ1 67 = 9 + 8 ∧ zCt l Z mX kx 0 0 aX (zA4 μ1 σ1 π1 g') (fun r μy => r = some (.int x) ∧ ∃ n L μ2 σ2 π2 g2, μy = zA4 μ2 σ2 π2 g2 ∧ zge g' g2 ∧ LW n L μ2 σ2 π2 ∧ zK μ2 106 = 3 ∧ zL μ2 106 = 1 ∧ σ2 67 45 = 0)) : zPr l Z mL hh mX aL aX bo μ0 := by
  refine ⟨0, k, kx, mc, ms, _, hb, hw, fun μ' hR => ?_⟩
  obtain ⟨x, μ1, σ1, π1, g1, hq, rfl⟩ := hR
  obtain ⟨h1, h2⟩ := hx x μ1 σ1 π1 g1 hq (zug g1 106 0 (vL bo x))
  refine ⟨h1, zCt_mono h2 (fun r μy q => ?_)⟩
  obtain ⟨rfl, n, L, μ2, σ2, π2, g2, e, eg, h3, h4, h5, h6⟩ := q
  exact ⟨x, rfl, n, L, μ2, σ2, π2, g2, e, h3, h4, h5, h6, fun _ => by rw [eg 106 (by decide)]; exact zug_eq _ _ _ _⟩
theorem pw_no {t : Int32} {P : zMem → Prop} (hw : zCtW l Z mL hh k mc ms aL μ0 (fun r μx => r = some (.int t) ∧ P μx)) (ht : t ≠ 0) (hb : k ≤ 190 ∧ kx ≤ 190 ∧ mc ≤ 3 ∧ ms ≤ 38)
    (hx : ∀ μx, P μx → zK μx 67 = 9 + 8 ∧ zCt l Z mX kx 0 0 aX μx (fun r μy => (∃ x, r = some (.int x)) ∧ ∃ n L μ2 σ2 π2 g2, μy = zA4 μ2 σ2 π2 g2 ∧ LW n L μ2 σ2 π2 ∧ zK μ2 106 = 3 ∧ zL μ2 106 = 1 ∧ σ2 67 45 = t)) : zPr l Z mL hh mX aL aX bo μ0 := by
  refine ⟨t, k, kx, mc, ms, _, hb, hw, fun μ' hR => ?_⟩
  obtain ⟨h1, h2⟩ := hx μ' hR
  refine ⟨h1, zCt_mono h2 (fun r μy q => ?_)⟩
  obtain ⟨⟨x, rfl⟩, n, L, μ2, σ2, π2, g2, e, h3, h4, h5, h6⟩ := q
  exact ⟨x, rfl, n, L, μ2, σ2, π2, g2, e, h3, h4, h5, h6, fun q => absurd q ht⟩
/-- refused: nothing changes but the reference's number -/
theorem pw_no1 {t : Int32} (h : LW n L μ σ π) (h6 : zK μ 106 = 3 ∧ zL μ 106 = 1) (hw : zCtW l Z mL hh k mc ms aL (zA4 μ σ π g) (fun r μx => r = some (.int t) ∧ μx = zA4 μ σ π g)) (ht : t ≠ 0) (hb : k ≤ 190 ∧ kx ≤ 190 ∧ mc ≤ 3 ∧ ms ≤ 38)
    (hx : zCt l Z mX kx 0 0 aX (zA4 μ σ π g) (fun r μy => r = some (.int 0) ∧ μy = zA4 μ (zu σ 67 45 t) π g)) : zPr l Z mL hh mX aL aX bo (zA4 μ σ π g) := by
  refine pw_no hw ht hb (fun μx e => ?_)
  subst e
  exact ⟨h.1.1, zCt_mono hx (fun r μy q => ⟨⟨0, q.1⟩, n, L, μ, _, π, g, q.2, h.m 45 t (Or.inr rfl), h6.1, h6.2, zu_eq _ _ _ _⟩)⟩
/-- a question that leaves all as it was -/
theorem pw_q1 {X : Int32} (h : LW n L μ σ π) (h6 : zK μ 106 = 3 ∧ zL μ 106 = 1) (hw : zCtW l Z mL hh k mc ms aL (zA4 μ σ π g) (fun r μx => r = some (.int 0) ∧ ∃ x μ1 σ1 π1 g1, (x = X ∧ zA4 μ1 σ1 π1 g1 = zA4 μ σ π g) ∧ μx = zA4 μ1 σ1 π1 (zug g1 106 0 (vL bo x)))) (hb : k ≤ 190 ∧ kx ≤ 190 ∧ mc ≤ 3 ∧ ms ≤ 38)
    (hx : ∀ g', zCt l Z mX kx 0 0 aX (zA4 μ σ π g') (fun r μy => r = some (.int X) ∧ μy = zA4 μ (zu σ 67 45 0) π g')) : zPr l Z mL hh mX aL aX bo (zA4 μ σ π g) := by
  refine pw_ok (Q := fun x μx => x = X ∧ μx = zA4 μ σ π g) hw hb (fun x μ1 σ1 π1 g1 hq g' => ?_)
  obtain ⟨rfl, he⟩ := hq
  obtain ⟨rfl, rfl, -, ek, hm⟩ := zA4_inj he
  rw [hm]
  exact ⟨by rw [ek]; exact h.1.1, zCt_mono (hx g') (fun r μy q => ⟨q.1, n, L, μ, _, _, g', q.2, fun _ _ => rfl, h.m 45 0 (Or.inr rfl), h6.1, h6.2, zu_eq _ _ _ _⟩)⟩
/-- a question that the class answers out of its second table -/
theorem pw_q2 {X : Int32} (h : LW n L μ σ π) (h6 : zK μ 106 = 3 ∧ zL μ 106 = 1) (hw : zCtW l Z mL hh k mc ms aL (zA4 μ σ π g) (fun r μx => r = some (.int 0) ∧ ∃ x μ1 σ1 π1 g1, (x = X ∧ zKp n σ μ σ π g (zA4 μ1 σ1 π1 g1)) ∧ μx = zA4 μ1 σ1 π1 (zug g1 106 0 (vL bo x)))) (hb : k ≤ 190 ∧ kx ≤ 190 ∧ mc ≤ 3 ∧ ms ≤ 38)
    (hx : ∀ μc σc πc g', LW n L μc σc πc → (∀ b, 67 ≤ b → b < 107 → ∀ j, σc b j = σ b j) → zCt l Z mX kx 0 0 aX (zA4 μc σc πc g') (fun r μy => r = some (.int X) ∧ ∃ σ2 g2, μy = zA4 μc σ2 πc g2 ∧ zge g' g2 ∧ LW n L μc σ2 πc ∧ σ2 67 45 = 0)) : zPr l Z mL hh mX aL aX bo (zA4 μ σ π g) := by
  have hn := h.cw.nn
  refine pw_ok (Q := fun x μx => x = X ∧ zKp n σ μ σ π g μx) hw hb (fun x μ1 σ1 π1 g1 hq g' => ?_)
  obtain ⟨rfl, μ', σ', π', gc, he, hC, hg, hz⟩ := hq
  obtain ⟨rfl, rfl, -, ek, hm⟩ := zA4_inj he
  rw [hm, ek]
  have h2 := h.cl hg hC hz
  exact ⟨h2.1.1, zCt_mono (hx μ' _ _ g' h2 (fun b a1 a2 j => (hz b a1 a2 j).1)) (fun r μy q => by
    obtain ⟨rfl, σ2, g2, e1, e2, e3, e4⟩ := q
    exact ⟨rfl, n, L, μ', σ2, _, g2, e1, e2, e3, (hg.2 106 (by omega)).1.trans h6.1, (hg.2 106 (by omega)).2.trans h6.2, e4⟩)⟩
/-- a step -/
theorem pw_st (h : LW n L μ σ π) (h6 : zK μ 106 = 3 ∧ zL μ 106 = 1) (hn : n < 40) {w a b c : Int32} (hk : ∀ S, CV n S → S 67 34 = σ 67 34 → KS n S w a b c)
    (hw : zCtW l Z mL hh k mc ms aL (zA4 μ σ π g) (fun r μx => r = some (.int 0) ∧ ∃ x μ1 σ1 π1 g1, (x = nI (doF (kpS σ n w a b c) n).2 ∧ zKp (n + 1) (doF (kpS σ n w a b c) n).1 μ σ π g (zA4 μ1 σ1 π1 g1)) ∧ μx = zA4 μ1 σ1 π1 (zug g1 106 0 (vL bo x)))) (hb : k ≤ 190 ∧ kx ≤ 190 ∧ mc ≤ 3 ∧ ms ≤ 38)
    (hx : ∀ μc σc πc g', zRef μc πc → RV n σc → (∀ b, 67 ≤ b → b < 107 → ∀ j, σc b j = σ b j) → zCt l Z mX kx 0 0 aX (zA4 μc σc πc g') (fun r μy => r = some (.int (nI (doF (kpS (zu σc 67 45 0) n w a b c) n).2)) ∧ ∃ g2, μy = zA4 μc (doF (kpS (zu σc 67 45 0) n w a b c) n).1 πc g2 ∧ zge g' g2)) : zPr l Z mL hh mX aL aX bo (zA4 μ σ π g) := by
  have hn7 := h.cw.nn
  refine pw_ok (Q := fun x μx => x = nI (doF (kpS σ n w a b c) n).2 ∧ zKp (n + 1) (doF (kpS σ n w a b c) n).1 μ σ π g μx) hw hb (fun x μ1 σ1 π1 g1 hq g' => ?_)
  obtain ⟨rfl, μ', σ', π', gc, he, hC, hg, hz⟩ := hq
  obtain ⟨rfl, rfl, -, ek, hm⟩ := zA4_inj he
  rw [hm, ek]
  obtain ⟨h2, h3, h4⟩ := h.step hn hk hC hg hz
  have e := fun b a1 a2 j => (hz b a1 a2 j).1
  have hRV : RV n _ := (h.2.1.q (zq_near (fun b h1 h2 j => e b (by omega) h2 j) (e 67 (by decide) (by decide) 33) (e 67 (by decide) (by decide) 34)) (e 67 (by decide) (by decide) 42)).1
  exact ⟨h2.1.1, zCt_mono (hx μ' _ _ g' h2.1 hRV e) (fun r μy q => by
    obtain ⟨rfl, g2, e1, e2⟩ := q
    exact ⟨by rw [h3], n + 1, L, μ', _, _, g2, e1, e2, h2, (hg.2 106 (by omega)).1.trans h6.1, (hg.2 106 (by omega)).2.trans h6.2, h4⟩)⟩
end ZPR
theorem cell_nI {a : Int32} (h : cellB a = true) : ∃ c, c < 12 ∧ a = nI c := by
  unfold cellB at h
  simp only [Bool.and_eq_true, decide_eq_true_eq] at h
  obtain ⟨j, hj, rfl⟩ := nI_of (Int32.not_lt.mpr h.1)
  refine ⟨j, ?_, rfl⟩
  rcases Nat.lt_or_ge j 12 with q | q
  · exact q
  · exact absurd h.2 (Int32.not_lt.mpr (nI_le (a := 12) (b := j) q hj))
theorem svc_nI {a : Int32} (h : svcB a = true) : ∃ c, c < 5 ∧ a = nI c := by
  unfold svcB at h
  simp only [Bool.and_eq_true, decide_eq_true_eq] at h
  obtain ⟨j, hj, rfl⟩ := nI_of (Int32.not_lt.mpr h.1)
  refine ⟨j, ?_, rfl⟩
  rcases Nat.lt_or_ge j 5 with q | q
  · exact q
  · exact absurd h.2 (Int32.not_lt.mpr (nI_le (a := 5) (b := j) q hj))
theorem cell_n {c : Nat} (h : c < 12) : cellB (nI c) = true := by
  unfold cellB
  simp only [Bool.and_eq_true, decide_eq_true_eq]
  exact ⟨nI_le (a := 0) (b := c) (Nat.zero_le _) (by omega), nI_lt (a := c) (b := 12) h (by decide)⟩
theorem svc_n {c : Nat} (h : c < 5) : svcB (nI c) = true := by
  unfold svcB
  simp only [Bool.and_eq_true, decide_eq_true_eq]
  exact ⟨nI_le (a := 0) (b := c) (Nat.zero_le _) (by omega), nI_lt (a := c) (b := 5) h (by decide)⟩

