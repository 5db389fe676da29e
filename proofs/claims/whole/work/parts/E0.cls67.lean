/-! ===== steps ===== -/
theorem rg_t {a b v : Int32} (h : a ≤ v ∧ v ≤ b) : (decide (a ≤ v) && decide (v ≤ b)) = true := by simp [h.1, h.2]
theorem rg_f {a b v : Int32} (h : ¬ (a ≤ v ∧ v ≤ b)) : (decide (a ≤ v) && decide (v ≤ b)) = false := by
  rw [Bool.eq_false_iff]
  intro q
  rw [Bool.and_eq_true, decide_eq_true_eq, decide_eq_true_eq] at q
  exact h q
theorem gs_1 (b c : Int32) : goesN (zbi false) b c = 1 := if_pos rfl
theorem gs_2 (c : Int32) : goesN (zbi true) (zbi false) c = 2 := by
  unfold goesN
  rw [if_neg (by decide), if_pos (show zbi false = 0 from rfl)]
theorem gs_3 : goesN (zbi true) (zbi true) (zbi false) = 3 := by decide
theorem vb_k {v : Int32} (h : -1000 ≤ v ∧ v ≤ 1000) : vb v := by
  have h1 := Int32.le_iff_toInt_le.mp h.1
  have h2 := Int32.le_iff_toInt_le.mp h.2
  rw [show (-1000 : Int32).toInt = -1000 from rfl] at h1
  rw [show (1000 : Int32).toInt = 1000 from rfl] at h2
  unfold vb
  omega
theorem full_f {n L : Nat} {μ : zMem} {σ : zS2} {π : zP2} (h : LW n L μ σ π) (hn : ¬ n < 40) : decide (σ 67 42 < 40) = false := by
  have h1 := h.2.1.1.1
  have e : n = 40 := by omega
  rw [h.2.1.1.2.1, e]
  decide
theorem kq_out {n L m : Nat} {μ : zMem} {σ S : zS2} {π : zP2} {g : zG2} (h : LW n L μ σ π) (h6 : zK μ 106 = 3 ∧ zL μ 106 = 1) {X : Int32} : ∀ (x : Int32) (μx : zMem), (x = X ∧ zKp m S μ σ π g μx) → ∃ μ1 σ1 π1 g1, μx = zA4 μ1 σ1 π1 g1 ∧ zK μ1 106 = 3 ∧ zL μ1 106 = 1 := fun x μx q => by
  have hn := h.cw.nn
  obtain ⟨-, μ', σ', π', g', q2, -, q4, -⟩ := q
  exact ⟨μ', σ', π', g', q2, (q4.2 106 (by omega)).1.trans h6.1, (q4.2 106 (by omega)).2.trans h6.2⟩
theorem okC_r {x : Int32} (h : okC x) : -1 ≤ x ∧ x ≤ 11 := by
  rcases h with rfl | ⟨c, hc, rfl⟩
  · decide
  · exact ⟨Int32.le_trans (by decide : (-1 : Int32) ≤ 0) (nI_le (a := 0) (b := c) (Nat.zero_le _) (by omega)), nI_le (a := c) (b := 11) (by omega) (by decide)⟩
theorem okC_of {x : Int32} (h : -1 ≤ x ∧ x ≤ 11) : okC x := by
  by_cases q : x = -1
  · exact Or.inl q
  · right
    have h0 : ¬ x < 0 := fun z => by
      have h1 := Int32.le_iff_toInt_le.mp h.1
      have h2 := Int32.lt_iff_toInt_lt.mp z
      rw [show (-1 : Int32).toInt = -1 from rfl] at h1
      rw [show (0 : Int32).toInt = 0 from rfl] at h2
      exact q (Int32.toInt_inj.mp (by rw [show (-1 : Int32).toInt = -1 from rfl]; omega))
    obtain ⟨j, hj, rfl⟩ := nI_of h0
    refine ⟨j, ?_, rfl⟩
    rcases Nat.lt_or_ge j 12 with z | z
    · exact z
    · exact absurd h.2 (Int32.not_le.mpr (nI_lt (a := 11) (b := j) z hj))
theorem okC_no {x : Int32} (h : ¬ okC x) : cellB x = false ∧ x ≠ -1 ∧ (decide (-1 ≤ x) && decide (x ≤ 11)) = false := by
  refine ⟨?_, fun q => h (Or.inl q), rg_f (fun q => h (okC_of q))⟩
  cases hb : cellB x with
  | false => rfl
  | true => exact absurd (Or.inr (cell_nI hb)) h
theorem lie_0 {v : Int32} (h : -1 ≤ v ∧ v ≤ 1000) (hn : v ≠ -1) : 0 ≤ v ∧ v ≤ 1000 := by
  refine ⟨?_, h.2⟩
  have h1 := Int32.le_iff_toInt_le.mp h.1
  rw [show (-1 : Int32).toInt = -1 from rfl] at h1
  apply Int32.le_iff_toInt_le.mpr
  rw [show (0 : Int32).toInt = 0 from rfl]
  have : v.toInt ≠ -1 := fun q => hn (Int32.toInt_inj.mp q)
  omega
set_option maxHeartbeats 1000000 in
theorem p_hold {l : Launch} {Z : zZ} (hZ : zSt l Z) (hO : zOps Z) (hX : zXs Z) (hN : zNs Z) (hSs : zSs Z) {n L : Nat} {μ : zMem} {σ : zS2} {π : zP2} {g : zG2} (h : LW n L μ σ π) (h6 : zK μ 106 = 3 ∧ zL μ 106 = 1) (a b : Int32) : zPr l Z mL_hold hhL_hold mX9_hold [.ref 0, .int a, .int b, .ref 106] [.ref 67, .int a, .int b] false (zA4 μ σ π g) := by
  cases hb : cellB a with
  | false =>
    have hw := w_hold_iob (Q := fun μx => μx = zA4 μ σ π g) (a := a) (b := b) (μ := zA4 μ σ π g) hZ h.cw.k0 hN (x_X8_hold_1 hZ h.cw hX hb)
    exact pw_no1 (t := 1) (kx := 8) h h6 hw (by decide) (by decide) (c_X9_hold_no hZ h.1 (by unfold cellB at hb; rw [hb]; exact gs_1 _ _) (by decide))
  | true =>
    obtain ⟨c, hc, rfl⟩ := cell_nI hb
    have hbb := hb
    unfold cellB at hbb
    by_cases hv : -1000 ≤ b ∧ b ≤ 1000
    · by_cases hn : n < 40
      · have hk : ∀ S, CV n S → S 67 34 = σ 67 34 → KS n S (1) (nI c) (b) (0) := fun S hV _ => hV.ks (kp_hold hV.1 hc b) (by
            have k := kp_at S n 1 (nI c) (b) (0)
            unfold stX
            rw [k.1, k.2.2.1, k.2.2.2]
            exact ⟨fun _ => vb_k hv, fun q => absurd q (by decide), fun q => absurd q (by decide), fun q => absurd q (by decide), fun q => absurd q (by decide)⟩) (fun q => absurd ((kp_at S n 1 (nI c) (b) (0)).1.symm.trans q) (by decide))
        exact pw_st (kx := 8) h h6 hn hk (w_hold (Q := fun x μx => x = nI (doF (kpS σ n (1) (nI c) (b) (0)) n).2 ∧ zKp (n + 1) (doF (kpS σ n (1) (nI c) (b) (0)) n).1 μ σ π g μx) hZ h.cw.k0 (zCt_mono (c_X8_hold hZ hO h.cw hn hc hv (hk σ h.2.1 rfl)) (fun r μ' q => ⟨_, q.1, rfl, q.2⟩)) (kq_out h h6)) (by decide) (fun μc σc πc g' hR hRV e => c_X9_hold_ok hZ hR hn hRV hc (rg_t hv))
      · have hw := w_hold_ise (Q := fun μx => μx = zA4 μ σ π g) (a := nI c) (b := b) (μ := zA4 μ σ π g) hZ h.cw.k0 hN (x_X8_hold_3 hZ h.cw hX hc hv h.2.1.1.1 hn)
        exact pw_no1 (t := 3) (kx := 8) h h6 hw (by decide) (by decide) (c_X9_hold_no hZ h.1 (by rw [hbb, rg_t hv, full_f h hn]; exact gs_3) (by decide))
    · have hw := w_hold_iae (Q := fun μx => μx = zA4 μ σ π g) (a := nI c) (b := b) (μ := zA4 μ σ π g) hZ h.cw.k0 hN (x_X8_hold_2 hZ h.cw hX hc hv)
      exact pw_no1 (t := 2) (kx := 8) h h6 hw (by decide) (by decide) (c_X9_hold_no hZ h.1 (by rw [hbb, rg_f hv]; exact gs_2 _) (by decide))

set_option maxHeartbeats 1000000 in
theorem p_read {l : Launch} {Z : zZ} (hZ : zSt l Z) (hO : zOps Z) (hX : zXs Z) (hN : zNs Z) (hSs : zSs Z) {n L : Nat} {μ : zMem} {σ : zS2} {π : zP2} {g : zG2} (h : LW n L μ σ π) (h6 : zK μ 106 = 3 ∧ zL μ 106 = 1) (a b : Int32) : zPr l Z mL_read hhL_read mX9_read [.ref 0, .int a, .int b, .ref 106] [.ref 67, .int a, .int b] false (zA4 μ σ π g) := by
  cases hb : svcB a with
  | false =>
    have hw := w_read_iob (Q := fun μx => μx = zA4 μ σ π g) (a := a) (b := b) (μ := zA4 μ σ π g) hZ h.cw.k0 hN (x_X8_read_1 hZ h.cw hX (fun q => by unfold svcB at hb; simp [q.1, q.2] at hb))
    exact pw_no1 (t := 1) (kx := 8) h h6 hw (by decide) (by decide) (c_X9_read_no hZ h.1 (by unfold svcB at hb; rw [hb]; exact gs_1 _ _) (by decide))
  | true =>
    obtain ⟨c, hc, rfl⟩ := svc_nI hb
    have hbb := hb
    unfold svcB at hbb
    by_cases hv : -1000 ≤ b ∧ b ≤ 1000
    · by_cases hn : n < 40
      · have hk : ∀ S, CV n S → S 67 34 = σ 67 34 → KS n S (3) (nI c) (b) (0) := fun S hV _ => hV.ks (kp_read hV.1 hc b) (by
            have k := kp_at S n 3 (nI c) (b) (0)
            unfold stX
            rw [k.1, k.2.2.1, k.2.2.2]
            exact ⟨fun _ => vb_k hv, fun q => absurd q (by decide), fun q => absurd q (by decide), fun q => absurd q (by decide), fun q => absurd q (by decide)⟩) (fun q => absurd ((kp_at S n 3 (nI c) (b) (0)).1.symm.trans q) (by decide))
        exact pw_st (kx := 8) h h6 hn hk (w_read (Q := fun x μx => x = nI (doF (kpS σ n (3) (nI c) (b) (0)) n).2 ∧ zKp (n + 1) (doF (kpS σ n (3) (nI c) (b) (0)) n).1 μ σ π g μx) hZ h.cw.k0 (zCt_mono (c_X8_read hZ hO h.cw hn hc hv (hk σ h.2.1 rfl)) (fun r μ' q => ⟨_, q.1, rfl, q.2⟩)) (kq_out h h6)) (by decide) (fun μc σc πc g' hR hRV e => c_X9_read_ok hZ hR hn hRV hc (rg_t hv))
      · have hw := w_read_ise (Q := fun μx => μx = zA4 μ σ π g) (a := nI c) (b := b) (μ := zA4 μ σ π g) hZ h.cw.k0 hN (x_X8_read_3 hZ h.cw hX hc hv h.2.1.1.1 hn)
        exact pw_no1 (t := 3) (kx := 8) h h6 hw (by decide) (by decide) (c_X9_read_no hZ h.1 (by rw [hbb, rg_t hv, full_f h hn]; exact gs_3) (by decide))
    · have hw := w_read_iae (Q := fun μx => μx = zA4 μ σ π g) (a := nI c) (b := b) (μ := zA4 μ σ π g) hZ h.cw.k0 hN (x_X8_read_2 hZ h.cw hX hc hv)
      exact pw_no1 (t := 2) (kx := 8) h h6 hw (by decide) (by decide) (c_X9_read_no hZ h.1 (by rw [hbb, rg_f hv]; exact gs_2 _) (by decide))

set_option maxHeartbeats 1000000 in
theorem p_lie {l : Launch} {Z : zZ} (hZ : zSt l Z) (hO : zOps Z) (hX : zXs Z) (hN : zNs Z) (hSs : zSs Z) {n L : Nat} {μ : zMem} {σ : zS2} {π : zP2} {g : zG2} (h : LW n L μ σ π) (h6 : zK μ 106 = 3 ∧ zL μ 106 = 1) (a b : Int32) : zPr l Z mL_lie hhL_lie mX9_lie [.ref 0, .int a, .int b, .ref 106] [.ref 67, .int a, .int b] false (zA4 μ σ π g) := by
  cases hb : svcB a with
  | false =>
    have hw := w_lie_iob (Q := fun μx => μx = zA4 μ σ π g) (a := a) (b := b) (μ := zA4 μ σ π g) hZ h.cw.k0 hN (x_X8_lie_1 hZ h.cw hX hb)
    exact pw_no1 (t := 1) (kx := 8) h h6 hw (by decide) (by decide) (c_X9_lie_no hZ h.1 (by unfold svcB at hb; rw [hb]; exact gs_1 _ _) (by decide))
  | true =>
    obtain ⟨c, hc, rfl⟩ := svc_nI hb
    have hbb := hb
    unfold svcB at hbb
    by_cases hv : -1 ≤ b ∧ b ≤ 1000
    · by_cases hn : n < 40
      · by_cases h1 : b = -1
        · subst h1
          have hk : ∀ S, CV n S → S 67 34 = σ 67 34 → KS n S (8) (nI c) (-1) (0) := fun S hV _ => hV.ks (kp_lie hV.1 hc (-1)) (by
              have k := kp_at S n 8 (nI c) (-1) (0)
              unfold stX
              rw [k.1, k.2.2.1, k.2.2.2]
              exact ⟨fun q => absurd q (by decide), fun q => absurd q (by decide), fun _ => Or.inl rfl, fun q => absurd q (by decide), fun q => absurd q (by decide)⟩) (fun q => absurd ((kp_at S n 8 (nI c) (-1) (0)).1.symm.trans q) (by decide))
          exact pw_st (kx := 8) h h6 hn hk (w_lie (Q := fun x μx => x = nI (doF (kpS σ n (8) (nI c) (-1) (0)) n).2 ∧ zKp (n + 1) (doF (kpS σ n (8) (nI c) (-1) (0)) n).1 μ σ π g μx) hZ h.cw.k0 (zCt_mono (c_X8_lieN hZ hO h.cw hn hc (hk σ h.2.1 rfl)) (fun r μ' q => ⟨_, q.1, rfl, q.2⟩)) (kq_out h h6)) (by decide) (fun μc σc πc g' hR hRV e => c_X9_lie_ok hZ hR hn hRV hc (rg_t hv))
        · have hk : ∀ S, CV n S → S 67 34 = σ 67 34 → KS n S (8) (nI c) (b) (0) := fun S hV _ => hV.ks (kp_lie hV.1 hc (b)) (by
              have k := kp_at S n 8 (nI c) (b) (0)
              unfold stX
              rw [k.1, k.2.2.1, k.2.2.2]
              exact ⟨fun q => absurd q (by decide), fun q => absurd q (by decide), fun _ => Or.inr (lie_0 hv h1), fun q => absurd q (by decide), fun q => absurd q (by decide)⟩) (fun q => absurd ((kp_at S n 8 (nI c) (b) (0)).1.symm.trans q) (by decide))
          exact pw_st (kx := 8) h h6 hn hk (w_lie (Q := fun x μx => x = nI (doF (kpS σ n (8) (nI c) (b) (0)) n).2 ∧ zKp (n + 1) (doF (kpS σ n (8) (nI c) (b) (0)) n).1 μ σ π g μx) hZ h.cw.k0 (zCt_mono (c_X8_lie hZ hO h.cw hn hc (lie_0 hv h1) (hk σ h.2.1 rfl)) (fun r μ' q => ⟨_, q.1, rfl, q.2⟩)) (kq_out h h6)) (by decide) (fun μc σc πc g' hR hRV e => c_X9_lie_ok hZ hR hn hRV hc (rg_t hv))
      · by_cases h1 : b = -1
        · subst h1
          have hw := w_lie_ise (Q := fun μx => μx = zA4 μ σ π g) (a := nI c) (b := -1) (μ := zA4 μ σ π g) hZ h.cw.k0 hN (x_X8_lie_3b hZ h.cw hX hc h.2.1.1.1 hn)
          exact pw_no1 (t := 3) (kx := 8) h h6 hw (by decide) (by decide) (c_X9_lie_no hZ h.1 (by rw [hbb, rg_t hv, full_f h hn]; exact gs_3) (by decide))
        · have hw := w_lie_ise (Q := fun μx => μx = zA4 μ σ π g) (a := nI c) (b := b) (μ := zA4 μ σ π g) hZ h.cw.k0 hN (x_X8_lie_3 hZ h.cw hX hc (lie_0 hv h1) h.2.1.1.1 hn)
          exact pw_no1 (t := 3) (kx := 8) h h6 hw (by decide) (by decide) (c_X9_lie_no hZ h.1 (by rw [hbb, rg_t hv, full_f h hn]; exact gs_3) (by decide))
    · have hw := w_lie_iae (Q := fun μx => μx = zA4 μ σ π g) (a := nI c) (b := b) (μ := zA4 μ σ π g) hZ h.cw.k0 hN (x_X8_lie_2 hZ h.cw hX hc (fun q => hv ⟨Int32.le_trans (by decide : (-1 : Int32) ≤ 0) q.1, q.2⟩) (fun q => hv (by rw [q]; decide)))
      exact pw_no1 (t := 2) (kx := 8) h h6 hw (by decide) (by decide) (c_X9_lie_no hZ h.1 (by rw [hbb, rg_f hv]; exact gs_2 _) (by decide))

set_option maxHeartbeats 1000000 in
theorem p_control {l : Launch} {Z : zZ} (hZ : zSt l Z) (hO : zOps Z) (hX : zXs Z) (hN : zNs Z) (hSs : zSs Z) {n L : Nat} {μ : zMem} {σ : zS2} {π : zP2} {g : zG2} (h : LW n L μ σ π) (h6 : zK μ 106 = 3 ∧ zL μ 106 = 1) (a b : Int32) : zPr l Z mL_control hhL_control mX9_control [.ref 0, .int a, .int b, .ref 106] [.ref 67, .int a, .int b] false (zA4 μ σ π g) := by
  cases hb : svcB a with
  | false =>
    have hw := w_control_iob (Q := fun μx => μx = zA4 μ σ π g) (a := a) (b := b) (μ := zA4 μ σ π g) hZ h.cw.k0 hN (x_X8_control_1 hZ h.cw hX hb)
    exact pw_no1 (t := 1) (kx := 8) h h6 hw (by decide) (by decide) (c_X9_control_no1 hZ h.1 (by rw [hb]; rfl))
  | true =>
    obtain ⟨c, hc, rfl⟩ := svc_nI hb
    by_cases hv : okC b
    · by_cases hn : n < 40
      · have hk : ∀ S, CV n S → S 67 34 = σ 67 34 → KS n S (4) (nI c) (b) (0) := fun S hV _ => hV.ks (kp_control hV.1 hc hv) (by
            have k := kp_at S n 4 (nI c) (b) (0)
            unfold stX
            rw [k.1, k.2.2.1, k.2.2.2]
            exact ⟨fun q => absurd q (by decide), fun q => absurd q (by decide), fun q => absurd q (by decide), fun _ => hv, fun q => absurd q (by decide)⟩) (fun q => absurd ((kp_at S n 4 (nI c) (b) (0)).1.symm.trans q) (by decide))
        exact pw_st (kx := 8) h h6 hn hk (w_control (Q := fun x μx => x = nI (doF (kpS σ n (4) (nI c) (b) (0)) n).2 ∧ zKp (n + 1) (doF (kpS σ n (4) (nI c) (b) (0)) n).1 μ σ π g μx) hZ h.cw.k0 (zCt_mono (c_X8_control hZ hO h.cw hn hc hv (hk σ h.2.1 rfl)) (fun r μ' q => ⟨_, q.1, rfl, q.2⟩)) (kq_out h h6)) (by decide) (fun μc σc πc g' hR hRV e => c_X9_control_ok hZ hR hn hRV hc (rg_t (okC_r hv)) hv)
      · have hw := w_control_ise (Q := fun μx => μx = zA4 μ σ π g) (a := nI c) (b := b) (μ := zA4 μ σ π g) hZ h.cw.k0 hN (x_X8_control_3 hZ h.cw hX hc hv h.2.1.1.1 hn)
        exact pw_no1 (t := 2) (kx := 8) h h6 hw (by decide) (by decide) (c_X9_control_no2 hZ h.1 h.2.1.1 hn hc (rg_t (okC_r hv)))
    · obtain ⟨o1, o2, o3⟩ := okC_no hv
      have hw := w_control_iob (Q := fun μx => μx = zA4 μ σ π g) (a := nI c) (b := b) (μ := zA4 μ σ π g) hZ h.cw.k0 hN (x_X8_control_2 hZ h.cw hX hc o1 o2)
      exact pw_no1 (t := 1) (kx := 8) h h6 hw (by decide) (by decide) (c_X9_control_no1 hZ h.1 (by rw [o3]; exact Bool.and_false _))

set_option maxHeartbeats 1000000 in
theorem p_limit {l : Launch} {Z : zZ} (hZ : zSt l Z) (hO : zOps Z) (hX : zXs Z) (hN : zNs Z) (hSs : zSs Z) {n L : Nat} {μ : zMem} {σ : zS2} {π : zP2} {g : zG2} (h : LW n L μ σ π) (h6 : zK μ 106 = 3 ∧ zL μ 106 = 1) (a b : Int32) : zPr l Z mL_limit hhL_limit mX9_limit [.ref 0, .int a, .int b, .ref 106] [.ref 67, .int a, .int b] false (zA4 μ σ π g) := by
  cases hb : svcB a with
  | false =>
    have hw := w_limit_iob (Q := fun μx => μx = zA4 μ σ π g) (a := a) (b := b) (μ := zA4 μ σ π g) hZ h.cw.k0 hN (x_X8_limit_1 hZ h.cw hX hb)
    exact pw_no1 (t := 1) (kx := 8) h h6 hw (by decide) (by decide) (c_X9_limit_no1 hZ h.1 (by rw [hb]; rfl))
  | true =>
    obtain ⟨c, hc, rfl⟩ := svc_nI hb
    by_cases hv : okC b
    · by_cases hn : n < 40
      · have hk : ∀ S, CV n S → S 67 34 = σ 67 34 → KS n S (5) (nI c) (b) (0) := fun S hV _ => hV.ks (kp_limit hV.1 hc hv) (by
            have k := kp_at S n 5 (nI c) (b) (0)
            unfold stX
            rw [k.1, k.2.2.1, k.2.2.2]
            exact ⟨fun q => absurd q (by decide), fun q => absurd q (by decide), fun q => absurd q (by decide), fun _ => hv, fun q => absurd q (by decide)⟩) (fun q => absurd ((kp_at S n 5 (nI c) (b) (0)).1.symm.trans q) (by decide))
        exact pw_st (kx := 8) h h6 hn hk (w_limit (Q := fun x μx => x = nI (doF (kpS σ n (5) (nI c) (b) (0)) n).2 ∧ zKp (n + 1) (doF (kpS σ n (5) (nI c) (b) (0)) n).1 μ σ π g μx) hZ h.cw.k0 (zCt_mono (c_X8_limit hZ hO h.cw hn hc hv (hk σ h.2.1 rfl)) (fun r μ' q => ⟨_, q.1, rfl, q.2⟩)) (kq_out h h6)) (by decide) (fun μc σc πc g' hR hRV e => c_X9_limit_ok hZ hR hn hRV hc (rg_t (okC_r hv)) hv)
      · have hw := w_limit_ise (Q := fun μx => μx = zA4 μ σ π g) (a := nI c) (b := b) (μ := zA4 μ σ π g) hZ h.cw.k0 hN (x_X8_limit_3 hZ h.cw hX hc hv h.2.1.1.1 hn)
        exact pw_no1 (t := 2) (kx := 8) h h6 hw (by decide) (by decide) (c_X9_limit_no2 hZ h.1 h.2.1.1 hn hc (rg_t (okC_r hv)))
    · obtain ⟨o1, o2, o3⟩ := okC_no hv
      have hw := w_limit_iob (Q := fun μx => μx = zA4 μ σ π g) (a := nI c) (b := b) (μ := zA4 μ σ π g) hZ h.cw.k0 hN (x_X8_limit_2 hZ h.cw hX hc o1 o2)
      exact pw_no1 (t := 1) (kx := 8) h h6 hw (by decide) (by decide) (c_X9_limit_no1 hZ h.1 (by rw [o3]; exact Bool.and_false _))

set_option maxHeartbeats 1000000 in
theorem p_release {l : Launch} {Z : zZ} (hZ : zSt l Z) (hO : zOps Z) (hX : zXs Z) (hN : zNs Z) (hSs : zSs Z) {n L : Nat} {μ : zMem} {σ : zS2} {π : zP2} {g : zG2} (h : LW n L μ σ π) (h6 : zK μ 106 = 3 ∧ zL μ 106 = 1) (a : Int32) : zPr l Z mL_release hhL_release mX9_release [.ref 0, .int a, .ref 106] [.ref 67, .int a] false (zA4 μ σ π g) := by
  cases hb : cellB a with
  | false =>
    have hw := w_release_iob (Q := fun μx => μx = zA4 μ σ π g) (a := a) (μ := zA4 μ σ π g) hZ h.cw.k0 hN (x_X8_release_1 hZ h.cw hX hb)
    exact pw_no1 (t := 1) (kx := 8) h h6 hw (by decide) (by decide) (c_X9_release_no1 hZ h.1 hb)
  | true =>
    obtain ⟨c, hc, rfl⟩ := cell_nI hb
    by_cases hh : σ 80 c = 0
    · have hw := w_release_ise (Q := fun μx => μx = zA4 μ σ π g) (a := nI c) (μ := zA4 μ σ π g) hZ h.cw.k0 hN (x_X8_release_2 hZ h.cw hX hc hh)
      exact pw_no1 (t := 2) (kx := 8) h h6 hw (by decide) (by decide) (c_X9_release_no2 hZ h.1 h.2.1.1 hc (Or.inl hh))
    · by_cases hn : n < 40
      · have hk : ∀ S, CV n S → S 67 34 = σ 67 34 → KS n S (2) (nI c) (0) (0) := fun S hV _ => hV.ks (kp_release hV.1 hc) (by
            have k := kp_at S n 2 (nI c) (0) (0)
            unfold stX
            rw [k.1, k.2.2.1, k.2.2.2]
            exact ⟨fun q => absurd q (by decide), fun q => absurd q (by decide), fun q => absurd q (by decide), fun q => absurd q (by decide), fun q => absurd q (by decide)⟩) (fun q => absurd ((kp_at S n 2 (nI c) (0) (0)).1.symm.trans q) (by decide))
        exact pw_st (kx := 8) h h6 hn hk (w_release (Q := fun x μx => x = nI (doF (kpS σ n (2) (nI c) (0) (0)) n).2 ∧ zKp (n + 1) (doF (kpS σ n (2) (nI c) (0) (0)) n).1 μ σ π g μx) hZ h.cw.k0 (zCt_mono (c_X8_release hZ hO h.cw hn hc hh (hk σ h.2.1 rfl)) (fun r μ' q => ⟨_, q.1, rfl, q.2⟩)) (kq_out h h6)) (by decide) (fun μc σc πc g' hR hRV e => c_X9_release_ok hZ hR hn hRV hc (by rw [e 80 (by decide) (by decide)]; exact hh))
      · have hw := w_release_ise (Q := fun μx => μx = zA4 μ σ π g) (a := nI c) (μ := zA4 μ σ π g) hZ h.cw.k0 hN (x_X8_release_3 hZ h.cw hX hc hh h.2.1.1.1 hn)
        exact pw_no1 (t := 2) (kx := 8) h h6 hw (by decide) (by decide) (c_X9_release_no2 hZ h.1 h.2.1.1 hc (Or.inr hn))

set_option maxHeartbeats 1000000 in
theorem p_mend {l : Launch} {Z : zZ} (hZ : zSt l Z) (hO : zOps Z) (hX : zXs Z) (hN : zNs Z) (hSs : zSs Z) {n L : Nat} {μ : zMem} {σ : zS2} {π : zP2} {g : zG2} (h : LW n L μ σ π) (h6 : zK μ 106 = 3 ∧ zL μ 106 = 1) (a : Int32) : zPr l Z mL_mend hhL_mend mX9_mend [.ref 0, .int a, .ref 106] [.ref 67, .int a] false (zA4 μ σ π g) := by
  cases hb : svcB a with
  | false =>
    have hw := w_mend_iob (Q := fun μx => μx = zA4 μ σ π g) (a := a) (μ := zA4 μ σ π g) hZ h.cw.k0 hN (x_X8_mend_1 hZ h.cw hX hb)
    exact pw_no1 (t := 1) (kx := 8) h h6 hw (by decide) (by decide) (c_X9_mend_no1 hZ h.1 hb)
  | true =>
    obtain ⟨c, hc, rfl⟩ := svc_nI hb
    by_cases hh : σ 92 c = 3
    · by_cases hn : n < 40
      · have hk : ∀ S, CV n S → S 67 34 = σ 67 34 → KS n S (9) (nI c) (0) (0) := fun S hV _ => hV.ks (kp_mend hV.1 hc) (by
            have k := kp_at S n 9 (nI c) (0) (0)
            unfold stX
            rw [k.1, k.2.2.1, k.2.2.2]
            exact ⟨fun q => absurd q (by decide), fun q => absurd q (by decide), fun q => absurd q (by decide), fun q => absurd q (by decide), fun q => absurd q (by decide)⟩) (fun q => absurd ((kp_at S n 9 (nI c) (0) (0)).1.symm.trans q) (by decide))
        exact pw_st (kx := 8) h h6 hn hk (w_mend (Q := fun x μx => x = nI (doF (kpS σ n (9) (nI c) (0) (0)) n).2 ∧ zKp (n + 1) (doF (kpS σ n (9) (nI c) (0) (0)) n).1 μ σ π g μx) hZ h.cw.k0 (zCt_mono (c_X8_mend hZ hO h.cw hn hc hh (hk σ h.2.1 rfl)) (fun r μ' q => ⟨_, q.1, rfl, q.2⟩)) (kq_out h h6)) (by decide) (fun μc σc πc g' hR hRV e => c_X9_mend_ok hZ hR hn hRV hc (by rw [e 92 (by decide) (by decide)]; exact hh))
      · have hw := w_mend_ise (Q := fun μx => μx = zA4 μ σ π g) (a := nI c) (μ := zA4 μ σ π g) hZ h.cw.k0 hN (x_X8_mend_3 hZ h.cw hX hc hh h.2.1.1.1 hn)
        exact pw_no1 (t := 2) (kx := 8) h h6 hw (by decide) (by decide) (c_X9_mend_no2 hZ h.1 h.2.1.1 hc (Or.inr hn))
    · have hw := w_mend_ise (Q := fun μx => μx = zA4 μ σ π g) (a := nI c) (μ := zA4 μ σ π g) hZ h.cw.k0 hN (x_X8_mend_2 hZ h.cw hX hc hh)
      exact pw_no1 (t := 2) (kx := 8) h h6 hw (by decide) (by decide) (c_X9_mend_no2 hZ h.1 h.2.1.1 hc (Or.inl hh))

set_option maxHeartbeats 1000000 in
theorem p_demand {l : Launch} {Z : zZ} (hZ : zSt l Z) (hO : zOps Z) (hX : zXs Z) (hN : zNs Z) (hSs : zSs Z) {n L : Nat} {μ : zMem} {σ : zS2} {π : zP2} {g : zG2} (h : LW n L μ σ π) (h6 : zK μ 106 = 3 ∧ zL μ 106 = 1) (a b e : Int32) : zPr l Z mL_demand hhL_demand mX9_demand [.ref 0, .int a, .int b, .int e, .ref 106] [.ref 67, .int a, .int b, .int e] false (zA4 μ σ π g) := by
  cases hb : svcB a with
  | false =>
    have hw := w_demand_iob (Q := fun μx => μx = zA4 μ σ π g) (a := a) (b := b) (e := e) (μ := zA4 μ σ π g) hZ h.cw.k0 hN (x_X8_demand_1 hZ h.cw hX hb)
    exact pw_no1 (t := 1) (kx := 8) h h6 hw (by decide) (by decide) (c_X9_demand_no hZ h.1 (by unfold svcB at hb; rw [hb]; exact gs_1 _ _) (by decide))
  | true =>
    obtain ⟨c, hc, rfl⟩ := svc_nI hb
    have hbb := hb
    unfold svcB at hbb
    by_cases hv : 0 ≤ b ∧ b ≤ 1000
    · by_cases he : 0 ≤ e ∧ e ≤ 10
      · by_cases hn : n < 40
        · have hk : ∀ S, CV n S → S 67 34 = σ 67 34 → KS n S (6) (nI c) (b) (e) := fun S hV _ => hV.ks (kp_demand hV.1 hc b e) (by
              have k := kp_at S n 6 (nI c) (b) (e)
              unfold stX
              rw [k.1, k.2.2.1, k.2.2.2]
              exact ⟨fun q => absurd q (by decide), fun _ => hv, fun q => absurd q (by decide), fun q => absurd q (by decide), fun q => absurd q (by decide)⟩) (fun q => absurd ((kp_at S n 6 (nI c) (b) (e)).1.symm.trans q) (by decide))
          exact pw_st (kx := 8) h h6 hn hk (w_demand (Q := fun x μx => x = nI (doF (kpS σ n (6) (nI c) (b) (e)) n).2 ∧ zKp (n + 1) (doF (kpS σ n (6) (nI c) (b) (e)) n).1 μ σ π g μx) hZ h.cw.k0 (zCt_mono (c_X8_demand hZ hO h.cw hn hc hv he (hk σ h.2.1 rfl)) (fun r μ' q => ⟨_, q.1, rfl, q.2⟩)) (kq_out h h6)) (by decide) (fun μc σc πc g' hR hRV e' => c_X9_demand_ok hZ hR hn hRV hc (rg_t hv) (rg_t he))
        · have hw := w_demand_ise (Q := fun μx => μx = zA4 μ σ π g) (a := nI c) (b := b) (e := e) (μ := zA4 μ σ π g) hZ h.cw.k0 hN (x_X8_demand_3 hZ h.cw hX hc hv he h.2.1.1.1 hn)
          exact pw_no1 (t := 3) (kx := 8) h h6 hw (by decide) (by decide) (c_X9_demand_no hZ h.1 (by rw [hbb, rg_t hv, rg_t he, full_f h hn]; exact gs_3) (by decide))
      · have hw := w_demand_iae (Q := fun μx => μx = zA4 μ σ π g) (a := nI c) (b := b) (e := e) (μ := zA4 μ σ π g) hZ h.cw.k0 hN (x_X8_demand_2b hZ h.cw hX hc hv he)
        exact pw_no1 (t := 2) (kx := 8) h h6 hw (by decide) (by decide) (c_X9_demand_no hZ h.1 (by rw [hbb, rg_t hv, rg_f he]; exact gs_2 _) (by decide))
    · have hw := w_demand_iae (Q := fun μx => μx = zA4 μ σ π g) (a := nI c) (b := b) (e := e) (μ := zA4 μ σ π g) hZ h.cw.k0 hN (x_X8_demand_2 hZ h.cw hX hc hv)
      exact pw_no1 (t := 2) (kx := 8) h h6 hw (by decide) (by decide) (c_X9_demand_no hZ h.1 (by rw [hbb, rg_f hv]; exact gs_2 _) (by decide))

set_option maxHeartbeats 1000000 in
theorem p_need {l : Launch} {Z : zZ} (hZ : zSt l Z) (hO : zOps Z) (hX : zXs Z) (hN : zNs Z) (hSs : zSs Z) {n L : Nat} {μ : zMem} {σ : zS2} {π : zP2} {g : zG2} (h : LW n L μ σ π) (h6 : zK μ 106 = 3 ∧ zL μ 106 = 1) (a b e : Int32) : zPr l Z mL_need hhL_need mX9_need [.ref 0, .int a, .int b, .int e, .ref 106] [.ref 67, .int a, .int b, .int e] false (zA4 μ σ π g) := by
  cases hb : svcB a with
  | false =>
    have hw := w_need_iob (Q := fun μx => μx = zA4 μ σ π g) (a := a) (b := b) (e := e) (μ := zA4 μ σ π g) hZ h.cw.k0 hN (x_X8_need_1 hZ h.cw hX hb)
    exact pw_no1 (t := 1) (kx := 8) h h6 hw (by decide) (by decide) (c_X9_need_no hZ h.1 (by rw [hb]; exact gs_1 _ _) (by decide))
  | true =>
    obtain ⟨c, hc, rfl⟩ := svc_nI hb
    cases hb2 : svcB b with
    | false =>
      have hw := w_need_iob (Q := fun μx => μx = zA4 μ σ π g) (a := nI c) (b := b) (e := e) (μ := zA4 μ σ π g) hZ h.cw.k0 hN (x_X8_need_1b hZ h.cw hX hc hb2)
      exact pw_no1 (t := 1) (kx := 8) h h6 hw (by decide) (by decide) (c_X9_need_no hZ h.1 (by rw [hb, hb2]; exact gs_1 _ _) (by decide))
    | true =>
      obtain ⟨o, ho, rfl⟩ := svc_nI hb2
      by_cases hq : c = o
      · subst hq
        have hw := w_need_iae (Q := fun μx => μx = zA4 μ σ π g) (a := nI c) (b := nI c) (e := e) (μ := zA4 μ σ π g) hZ h.cw.k0 hN (x_X8_need_2 hZ h.cw hX hc)
        exact pw_no1 (t := 2) (kx := 8) h h6 hw (by decide) (by decide) (c_X9_need_no hZ h.1 (by rw [hb, decide_eq_false (fun q : nI c ≠ nI c => q rfl)]; exact gs_2 _) (by decide))
      · have hne : decide (nI c ≠ nI o) = true := decide_eq_true (fun q => hq ((nI_eq (by omega) (by omega)).mp q))
        by_cases hz : e = 0
        · by_cases hn : n < 40
          · have hk : ∀ S, CV n S → S 67 34 = σ 67 34 → KS n S (7) (nI c) (nI o) (0) := fun S hV _ => hV.ks (kp_need hV.1 hc (nI o) 0) (by
                have k := kp_at S n 7 (nI c) (nI o) (0)
                unfold stX
                rw [k.1, k.2.2.1, k.2.2.2]
                exact ⟨fun q => absurd q (by decide), fun q => absurd q (by decide), fun q => absurd q (by decide), fun q => absurd q (by decide), fun _ => ⟨⟨o, ho, rfl⟩, Or.inl rfl⟩⟩) (fun q => absurd ((kp_at S n 7 (nI c) (nI o) (0)).1.symm.trans q) (by decide))
            exact pw_st (kx := 8) h h6 hn hk (w_need (Q := fun x μx => x = nI (doF (kpS σ n (7) (nI c) (nI o) (0)) n).2 ∧ zKp (n + 1) (doF (kpS σ n (7) (nI c) (nI o) (0)) n).1 μ σ π g μx) hZ h.cw.k0 (zCt_mono (c_X8_need0 hZ hO h.cw hn hc ho hq hz (hk σ h.2.1 rfl)) (fun r μ' q => ⟨_, q.1, rfl, q.2⟩)) (kq_out h h6)) (by decide) (fun μc σc πc g' hR hRV e' => c_X9_need_ok0 hZ hR hn hRV hc ho hq hz)
          · have hw := w_need_ise (Q := fun μx => μx = zA4 μ σ π g) (a := nI c) (b := nI o) (e := e) (μ := zA4 μ σ π g) hZ h.cw.k0 hN (x_X8_need_3b hZ h.cw hX hc ho hq hz h.2.1.1.1 hn)
            exact pw_no1 (t := 3) (kx := 8) h h6 hw (by decide) (by decide) (c_X9_need_no hZ h.1 (by rw [hb, hb2, hne, full_f h hn]; exact gs_3) (by decide))
        · by_cases hn : n < 40
          · have hk : ∀ S, CV n S → S 67 34 = σ 67 34 → KS n S (7) (nI c) (nI o) (1) := fun S hV _ => hV.ks (kp_need hV.1 hc (nI o) 1) (by
                have k := kp_at S n 7 (nI c) (nI o) (1)
                unfold stX
                rw [k.1, k.2.2.1, k.2.2.2]
                exact ⟨fun q => absurd q (by decide), fun q => absurd q (by decide), fun q => absurd q (by decide), fun q => absurd q (by decide), fun _ => ⟨⟨o, ho, rfl⟩, Or.inr rfl⟩⟩) (fun q => absurd ((kp_at S n 7 (nI c) (nI o) (1)).1.symm.trans q) (by decide))
            exact pw_st (kx := 8) h h6 hn hk (w_need (Q := fun x μx => x = nI (doF (kpS σ n (7) (nI c) (nI o) (1)) n).2 ∧ zKp (n + 1) (doF (kpS σ n (7) (nI c) (nI o) (1)) n).1 μ σ π g μx) hZ h.cw.k0 (zCt_mono (c_X8_need1 hZ hO h.cw hn hc ho hq hz (hk σ h.2.1 rfl)) (fun r μ' q => ⟨_, q.1, rfl, q.2⟩)) (kq_out h h6)) (by decide) (fun μc σc πc g' hR hRV e' => c_X9_need_ok1 hZ hR hn hRV hc ho hq hz)
          · have hw := w_need_ise (Q := fun μx => μx = zA4 μ σ π g) (a := nI c) (b := nI o) (e := e) (μ := zA4 μ σ π g) hZ h.cw.k0 hN (x_X8_need_3 hZ h.cw hX hc ho hq hz h.2.1.1.1 hn)
            exact pw_no1 (t := 3) (kx := 8) h h6 hw (by decide) (by decide) (c_X9_need_no hZ h.1 (by rw [hb, hb2, hne, full_f h hn]; exact gs_3) (by decide))

set_option maxHeartbeats 1000000 in
theorem p_tick {l : Launch} {Z : zZ} (hZ : zSt l Z) (hO : zOps Z) (hX : zXs Z) (hN : zNs Z) (hSs : zSs Z) {n L : Nat} {μ : zMem} {σ : zS2} {π : zP2} {g : zG2} (h : LW n L μ σ π) (h6 : zK μ 106 = 3 ∧ zL μ 106 = 1) (a : Int32) : zPr l Z mL_tick hhL_tick mX9_tick [.ref 0, .int a, .ref 106] [.ref 67, .int a] false (zA4 μ σ π g) := by
  obtain ⟨E, hE2, hE⟩ := h.2.1.now
  by_cases hv : 1 ≤ a ∧ a ≤ 50
  · obtain ⟨t, ht, rfl⟩ : ∃ t, t ≤ 50 ∧ a = nI t := by
      obtain ⟨j, hj, rfl⟩ := nI_of (Int32.not_lt.mpr (Int32.le_trans (by decide : (0 : Int32) ≤ 1) hv.1))
      refine ⟨j, ?_, rfl⟩
      rcases Nat.lt_or_ge 50 j with z | z
      · exact absurd hv.2 (Int32.not_le.mpr (nI_lt (a := 50) (b := j) z hj))
      · exact z
    by_cases hle : σ 67 34 + nI t ≤ 2000
    · by_cases hn : n < 40
      · have hEt : E + t ≤ 2000 := by
          rw [hE, nI_ad] at hle
          rcases Nat.lt_or_ge 2000 (E + t) with z | z
          · exact absurd hle (Int32.not_le.mpr (nI_lt (a := 2000) (b := E + t) z (by omega)))
          · exact z
        have hk : ∀ S, CV n S → S 67 34 = σ 67 34 → KS n S (10) (nI t) (0) (0) := fun S hV hS => hV.ks (kp_tick hV.1 ht) (by
          have k := kp_at S n 10 (nI t) 0 0
          unfold stX
          rw [k.1, k.2.2.1, k.2.2.2]
          exact ⟨fun q => absurd q (by decide), fun q => absurd q (by decide), fun q => absurd q (by decide), fun q => absurd q (by decide), fun q => absurd q (by decide)⟩) (fun _ E1 e1 e2 => by
            have e3 : E1 = E := (nI_eq (by omega) (by omega)).mp (e1.symm.trans (hS.trans hE))
            have e4 : stC (kpS S n 10 (nI t) 0 0) n = t := by unfold stC; rw [(kp_at S n 10 (nI t) 0 0).2.1]; exact nI_clamp (by omega)
            rw [e4, e3]; exact hEt)
        exact pw_st (kx := 8) h h6 hn hk (w_tick (Q := fun x μx => x = nI (doF (kpS σ n (10) (nI t) (0) (0)) n).2 ∧ zKp (n + 1) (doF (kpS σ n (10) (nI t) (0) (0)) n).1 μ σ π g μx) hZ h.cw.k0 (zCt_mono (c_X8_tick hZ hO h.cw hn hv hle (hk σ h.2.1 rfl)) (fun r μ' q => ⟨_, q.1, rfl, q.2⟩)) (kq_out h h6)) (by decide) (fun μc σc πc g' hR hRV e => c_X9_tick_ok hZ hR hn hRV ht (rg_t hv) (by rw [e 67 (by decide) (by decide)]; exact hle))
      · have hw := w_tick_ise (Q := fun μx => μx = zA4 μ σ π g) (a := nI t) (μ := zA4 μ σ π g) hZ h.cw.k0 hN (x_X8_tick_3 hZ h.cw hX hv hle h.2.1.1.1 hn)
        exact pw_no1 (t := 2) (kx := 8) h h6 hw (by decide) (by decide) (c_X9_tick_no2 hZ h.1 h.2.1.1 (rg_t hv) (Or.inr hn))
    · have hw := w_tick_ise (Q := fun μx => μx = zA4 μ σ π g) (a := nI t) (μ := zA4 μ σ π g) hZ h.cw.k0 hN (x_X8_tick_2 hZ h.cw hX hv hle)
      exact pw_no1 (t := 2) (kx := 8) h h6 hw (by decide) (by decide) (c_X9_tick_no2 hZ h.1 h.2.1.1 (rg_t hv) (Or.inl hle))
  · have hw := w_tick_iae (Q := fun μx => μx = zA4 μ σ π g) (a := a) (μ := zA4 μ σ π g) hZ h.cw.k0 hN (x_X8_tick_1 hZ h.cw hX hv)
    exact pw_no1 (t := 1) (kx := 8) h h6 hw (by decide) (by decide) (c_X9_tick_no1 hZ h.1 (rg_f hv))

