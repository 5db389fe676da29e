/-! ===== questions ===== -/
set_option maxHeartbeats 1000000 in
theorem p_value {l : Launch} {Z : zZ} (hZ : zSt l Z) (hO : zOps Z) (hX : zXs Z) (hN : zNs Z) (hSs : zSs Z) {n L : Nat} {μ : zMem} {σ : zS2} {π : zP2} {g : zG2} (h : LW n L μ σ π) (h6 : zK μ 106 = 3 ∧ zL μ 106 = 1) (a : Int32) : zPr l Z mL_value hhL_value mX9_value [.ref 0, .int a, .ref 106] [.ref 67, .int a] false (zA4 μ σ π g) := by
  cases hb : cellB a with
  | true =>
    obtain ⟨c, hc, rfl⟩ := cell_nI hb
    exact pw_q1 (X := σ 88 c) (kx := 2) h h6 (w_value (Q := fun x μx => x = σ 88 c ∧ μx = zA4 μ σ π g) hZ h.cw.k0 (zCt_mono (c_X8_value hZ h.cw hc) (fun r μ' q => ⟨_, q.1, rfl, q.2⟩)) (fun x μx q => ⟨μ, σ, π, g, q.2, h6⟩)) (by decide) (fun g' => c_X9_value_ok hZ h.1 hc)
  | false =>
    have hw := (w_value_iob (Q := fun μx => μx = zA4 μ σ π g) (a := a) (μ := zA4 μ σ π g) hZ h.cw.k0 hN (x_X8_value hZ hX hb))
    exact pw_no1 (t := 1) h h6 hw (by decide) (by decide) (c_X9_value_no hZ h.1 hb)
set_option maxHeartbeats 1000000 in
theorem p_depth {l : Launch} {Z : zZ} (hZ : zSt l Z) (hO : zOps Z) (hX : zXs Z) (hN : zNs Z) (hSs : zSs Z) {n L : Nat} {μ : zMem} {σ : zS2} {π : zP2} {g : zG2} (h : LW n L μ σ π) (h6 : zK μ 106 = 3 ∧ zL μ 106 = 1) (a : Int32) : zPr l Z mL_depth hhL_depth mX9_depth [.ref 0, .int a, .ref 106] [.ref 67, .int a] false (zA4 μ σ π g) := by
  cases hb : cellB a with
  | true =>
    obtain ⟨c, hc, rfl⟩ := cell_nI hb
    exact pw_q1 (X := σ 79 c) (kx := 2) h h6 (w_depth (Q := fun x μx => x = σ 79 c ∧ μx = zA4 μ σ π g) hZ h.cw.k0 (zCt_mono (c_X8_depth hZ h.cw hc) (fun r μ' q => ⟨_, q.1, rfl, q.2⟩)) (fun x μx q => ⟨μ, σ, π, g, q.2, h6⟩)) (by decide) (fun g' => c_X9_depth_ok hZ h.1 hc)
  | false =>
    have hw := (w_depth_iob (Q := fun μx => μx = zA4 μ σ π g) (a := a) (μ := zA4 μ σ π g) hZ h.cw.k0 hN (x_X8_depth hZ hX hb))
    exact pw_no1 (t := 1) h h6 hw (by decide) (by decide) (c_X9_depth_no hZ h.1 hb)
set_option maxHeartbeats 1000000 in
theorem p_state {l : Launch} {Z : zZ} (hZ : zSt l Z) (hO : zOps Z) (hX : zXs Z) (hN : zNs Z) (hSs : zSs Z) {n L : Nat} {μ : zMem} {σ : zS2} {π : zP2} {g : zG2} (h : LW n L μ σ π) (h6 : zK μ 106 = 3 ∧ zL μ 106 = 1) (a : Int32) : zPr l Z mL_state hhL_state mX9_state [.ref 0, .int a, .ref 106] [.ref 67, .int a] false (zA4 μ σ π g) := by
  cases hb : svcB a with
  | true =>
    obtain ⟨c, hc, rfl⟩ := svc_nI hb
    exact pw_q1 (X := σ 92 c) (kx := 2) h h6 (w_state (Q := fun x μx => x = σ 92 c ∧ μx = zA4 μ σ π g) hZ h.cw.k0 (zCt_mono (c_X8_state hZ h.cw hc) (fun r μ' q => ⟨_, q.1, rfl, q.2⟩)) (fun x μx q => ⟨μ, σ, π, g, q.2, h6⟩)) (by decide) (fun g' => c_X9_state_ok hZ h.1 hc)
  | false =>
    have hw := (w_state_iob (Q := fun μx => μx = zA4 μ σ π g) (a := a) (μ := zA4 μ σ π g) hZ h.cw.k0 hN (x_X8_state hZ hX hb))
    exact pw_no1 (t := 1) h h6 hw (by decide) (by decide) (c_X9_state_no hZ h.1 hb)
set_option maxHeartbeats 1000000 in
theorem p_load {l : Launch} {Z : zZ} (hZ : zSt l Z) (hO : zOps Z) (hX : zXs Z) (hN : zNs Z) (hSs : zSs Z) {n L : Nat} {μ : zMem} {σ : zS2} {π : zP2} {g : zG2} (h : LW n L μ σ π) (h6 : zK μ 106 = 3 ∧ zL μ 106 = 1) (a : Int32) : zPr l Z mL_load hhL_load mX9_load [.ref 0, .int a, .ref 106] [.ref 67, .int a] false (zA4 μ σ π g) := by
  cases hb : svcB a with
  | true =>
    obtain ⟨c, hc, rfl⟩ := svc_nI hb
    exact pw_q1 (X := σ 95 c) (kx := 2) h h6 (w_load (Q := fun x μx => x = σ 95 c ∧ μx = zA4 μ σ π g) hZ h.cw.k0 (zCt_mono (c_X8_load hZ h.cw hc) (fun r μ' q => ⟨_, q.1, rfl, q.2⟩)) (fun x μx q => ⟨μ, σ, π, g, q.2, h6⟩)) (by decide) (fun g' => c_X9_load_ok hZ h.1 hc)
  | false =>
    have hw := (w_load_iob (Q := fun μx => μx = zA4 μ σ π g) (a := a) (μ := zA4 μ σ π g) hZ h.cw.k0 hN (x_X8_load hZ hX hb))
    exact pw_no1 (t := 1) h h6 hw (by decide) (by decide) (c_X9_load_no hZ h.1 hb)
set_option maxHeartbeats 1000000 in
theorem p_told {l : Launch} {Z : zZ} (hZ : zSt l Z) (hO : zOps Z) (hX : zXs Z) (hN : zNs Z) (hSs : zSs Z) {n L : Nat} {μ : zMem} {σ : zS2} {π : zP2} {g : zG2} (h : LW n L μ σ π) (h6 : zK μ 106 = 3 ∧ zL μ 106 = 1) (a : Int32) : zPr l Z mL_told hhL_told mX9_told [.ref 0, .int a, .ref 106] [.ref 67, .int a] false (zA4 μ σ π g) := by
  cases hb : svcB a with
  | true =>
    obtain ⟨c, hc, rfl⟩ := svc_nI hb
    exact pw_q1 (X := σ 96 c) (kx := 2) h h6 (w_told (Q := fun x μx => x = σ 96 c ∧ μx = zA4 μ σ π g) hZ h.cw.k0 (zCt_mono (c_X8_told hZ h.cw hc) (fun r μ' q => ⟨_, q.1, rfl, q.2⟩)) (fun x μx q => ⟨μ, σ, π, g, q.2, h6⟩)) (by decide) (fun g' => c_X9_told_ok hZ h.1 hc)
  | false =>
    have hw := (w_told_iob (Q := fun μx => μx = zA4 μ σ π g) (a := a) (μ := zA4 μ σ π g) hZ h.cw.k0 hN (x_X8_told hZ hX hb))
    exact pw_no1 (t := 1) h h6 hw (by decide) (by decide) (c_X9_told_no hZ h.1 hb)
set_option maxHeartbeats 1000000 in
theorem p_starts {l : Launch} {Z : zZ} (hZ : zSt l Z) (hO : zOps Z) (hX : zXs Z) (hN : zNs Z) (hSs : zSs Z) {n L : Nat} {μ : zMem} {σ : zS2} {π : zP2} {g : zG2} (h : LW n L μ σ π) (h6 : zK μ 106 = 3 ∧ zL μ 106 = 1) (a : Int32) : zPr l Z mL_starts hhL_starts mX9_starts [.ref 0, .int a, .ref 106] [.ref 67, .int a] false (zA4 μ σ π g) := by
  cases hb : svcB a with
  | true =>
    obtain ⟨c, hc, rfl⟩ := svc_nI hb
    exact pw_q1 (X := σ 97 c) (kx := 2) h h6 (w_starts (Q := fun x μx => x = σ 97 c ∧ μx = zA4 μ σ π g) hZ h.cw.k0 (zCt_mono (c_X8_starts hZ h.cw hc) (fun r μ' q => ⟨_, q.1, rfl, q.2⟩)) (fun x μx q => ⟨μ, σ, π, g, q.2, h6⟩)) (by decide) (fun g' => c_X9_starts_ok hZ h.1 hc)
  | false =>
    have hw := (w_starts_iob (Q := fun μx => μx = zA4 μ σ π g) (a := a) (μ := zA4 μ σ π g) hZ h.cw.k0 hN (x_X8_starts hZ hX hb))
    exact pw_no1 (t := 1) h h6 hw (by decide) (by decide) (c_X9_starts_no hZ h.1 hb)
set_option maxHeartbeats 1000000 in
theorem p_isStale {l : Launch} {Z : zZ} (hZ : zSt l Z) (hO : zOps Z) (hX : zXs Z) (hN : zNs Z) (hSs : zSs Z) {n L : Nat} {μ : zMem} {σ : zS2} {π : zP2} {g : zG2} (h : LW n L μ σ π) (h6 : zK μ 106 = 3 ∧ zL μ 106 = 1) (a : Int32) : zPr l Z mL_isStale hhL_isStale mX9_isStale [.ref 0, .int a, .ref 106] [.ref 67, .int a] true (zA4 μ σ π g) := by
  cases hb : cellB a with
  | true =>
    obtain ⟨c, hc, rfl⟩ := cell_nI hb
    have hKQ := h.2.1.kq
    have q45 : zq n σ (zu σ 67 45 0) := zq_near (fun b h1 _ j => zu_ne _ _ _ _ (by omega) j) (zu_nj _ _ _ _ _ (by decide)) (zu_nj _ _ _ _ _ (by decide))
    exact pw_q1 (X := zbi (staleB σ c)) (kx := 3) h h6 (w_isStale (Q := fun x μx => x = zbi (staleB σ c) ∧ μx = zA4 μ σ π g) hZ h.cw.k0 (zCt_mono (c_X8_isStale hZ h.cw hKQ.1.1 hKQ.1.2.1 hc) (fun r μ' q => ⟨_, q.1, rfl, q.2⟩)) (fun x μx q => ⟨μ, σ, π, g, q.2, h6⟩)) (by decide) (fun g' => by rw [← staleB_q q45 c]; exact c_X9_isStale_ok hZ h.1 hc)
  | false =>
    have hw := (w_isStale_iob (Q := fun μx => μx = zA4 μ σ π g) (a := a) (μ := zA4 μ σ π g) hZ h.cw.k0 hN (x_X8_isStale hZ hX hb))
    exact pw_no1 (t := 1) h h6 hw (by decide) (by decide) (c_X9_isStale_no hZ h.1 hb)
set_option maxHeartbeats 1000000 in
theorem p_isLoop {l : Launch} {Z : zZ} (hZ : zSt l Z) (hO : zOps Z) (hX : zXs Z) (hN : zNs Z) (hSs : zSs Z) {n L : Nat} {μ : zMem} {σ : zS2} {π : zP2} {g : zG2} (h : LW n L μ σ π) (h6 : zK μ 106 = 3 ∧ zL μ 106 = 1) (a : Int32) : zPr l Z mL_isLoop hhL_isLoop mX9_isLoop [.ref 0, .int a, .ref 106] [.ref 67, .int a] true (zA4 μ σ π g) := by
  cases hb : svcB a with
  | true =>
    obtain ⟨c, hc, rfl⟩ := svc_nI hb
    have hKQ := h.2.1.kq
    exact pw_q1 (X := zbi (loopB σ c)) (kx := 3) h h6 (w_isLoop (Q := fun x μx => x = zbi (loopB σ c) ∧ μx = zA4 μ σ π g) hZ h.cw.k0 (zCt_mono (c_X8_isLoop hZ h.cw hKQ.1.1 hKQ.1.2.1 hc) (fun r μ' q => ⟨_, q.1, rfl, q.2⟩)) (fun x μx q => ⟨μ, σ, π, g, q.2, h6⟩)) (by decide) (fun g' => c_X9_isLoop hZ h.1 hc)
  | false =>
    have hw := (w_isLoop_iob (Q := fun μx => μx = zA4 μ σ π g) (a := a) (μ := zA4 μ σ π g) hZ h.cw.k0 hN (x_X8_isLoop hZ hX hb))
    exact pw_no1 (t := 1) h h6 hw (by decide) (by decide) (c_X9_isLoop_no hZ h.1 hb)
theorem raF_q {n : Nat} {S S' : zS2} (h : zq n S S') : ∀ k, k ≤ n → zq n (raF S k) (raF S' k) := by
  intro k
  induction k with
  | zero => exact fun _ => h
  | succ k ih =>
    intro hk
    have q := ih (by omega)
    have a1 := q.step 98 (by decide) k (by omega)
    have a2 := q.step 102 (by decide) k (by omega)
    have a3 := q.step 100 (by decide) k (by omega)
    have a4 := q.now
    simp only [raF, a1, a2, a4]
    split
    · rw [stC_q q (by omega), a3]
      exact (setF_q 6 (readF_q q _ _)).1
    · exact q
theorem trL_q {n : Nat} {S S' : zS2} (h : zq n S S') (E : Nat) : ∀ d, zq n (trL S E n d) (trL S' E n d) := by
  intro d
  induction d with
  | zero => exact (setF_q 6 (clearF_q (zq_u h 67 34 rfl (by decide)))).1
  | succ d ih => exact (setF_q 6 (nowF_q (raF_q ih n (Nat.le_refl n)))).1
theorem trF_q {n : Nat} {S S' : zS2} (h : zq n S S') (E : Nat) : zq n (trF S E n) (trF S' E n) := raF_q (trL_q h E _) n (Nat.le_refl n)
theorem q45 {n : Nat} (σ : zS2) (v : Int32) : zq n σ (zu σ 67 45 v) := zq_near (fun b h1 _ j => zu_ne _ _ _ _ (by omega) j) (zu_nj _ _ _ _ _ (by decide)) (zu_nj _ _ _ _ _ (by decide))
theorem qcl {n : Nat} {σ σc : zS2} (e : ∀ b, 67 ≤ b → b < 107 → ∀ j, σc b j = σ b j) : zq n σ σc := zq_near (fun b h1 h2 j => e b (by omega) h2 j) (e 67 (by decide) (by decide) 33) (e 67 (by decide) (by decide) 34)

set_option maxHeartbeats 1000000 in
theorem p_worth {l : Launch} {Z : zZ} (hZ : zSt l Z) (hO : zOps Z) (hX : zXs Z) (hN : zNs Z) (hSs : zSs Z) {n L : Nat} {μ : zMem} {σ : zS2} {π : zP2} {g : zG2} (h : LW n L μ σ π) (h6 : zK μ 106 = 3 ∧ zL μ 106 = 1) (a : Int32) : zPr l Z mL_worth hhL_worth mX9_worth [.ref 0, .int a, .ref 106] [.ref 67, .int a] false (zA4 μ σ π g) := by
  cases hb : cellB a with
  | true =>
    obtain ⟨c, hc, rfl⟩ := cell_nI hb
    have hKQ := h.2.1.kq
    have hn := h.cw.nn
    refine pw_q2 (X := worthN σ c) (kx := 3) h h6 (w_worth (Q := fun x μx => x = worthN σ c ∧ zKp n σ μ σ π g μx) hZ h.cw.k0 (zCt_mono (c_X8_worth hZ hO h.cw hKQ.1.1 hKQ.1.2.1 hc) (fun r μ' q => ?_)) (fun x μx q => ?_)) (by decide) (fun μc σc πc g' hL e => ?_)
    · obtain ⟨q1, σ', q2, q3, q4⟩ := q
      exact ⟨_, q1, rfl, μ, σ', π, g, q2, q3, zgr.rf, fun b h1 _ j => ⟨q4 b j (by omega), rfl, rfl⟩⟩
    · obtain ⟨-, μ', σ', π', g', q2, -, q4, -⟩ := q
      exact ⟨μ', σ', π', g', q2, (q4.2 106 (by omega)).1.trans h6.1, (q4.2 106 (by omega)).2.trans h6.2⟩
    · have hr : RI (zu σc 67 45 0) := RI_q (zq_trans (qcl (n := n) e) (q45 σc 0)) hKQ.1.1
      rw [← worthN_q (zq_trans (qcl (n := n) e) (q45 σc 0)) hc]
      exact zCt_mono (c_X9_worth_ok hZ hL.1 hc hr) (fun r μy q => by
        obtain ⟨q1, g2, q2, q3⟩ := q
        exact ⟨q1, _, g2, q2, q3, (hL.m 45 0 (Or.inr rfl)).m 44 1 (Or.inl rfl), (zu_nj _ _ _ _ _ (by decide)).trans (zu_eq _ _ _ _)⟩)
  | false =>
    have hw := (w_worth_iob (Q := fun μx => μx = zA4 μ σ π g) (a := a) (μ := zA4 μ σ π g) hZ h.cw.k0 hN (x_X8_worth hZ hX hb))
    exact pw_no1 (t := 1) h h6 hw (by decide) (by decide) (c_X9_worth_no hZ h.1 hb)
set_option maxHeartbeats 1000000 in
theorem p_valueAnew {l : Launch} {Z : zZ} (hZ : zSt l Z) (hO : zOps Z) (hX : zXs Z) (hN : zNs Z) (hSs : zSs Z) {n L : Nat} {μ : zMem} {σ : zS2} {π : zP2} {g : zG2} (h : LW n L μ σ π) (h6 : zK μ 106 = 3 ∧ zL μ 106 = 1) (a : Int32) : zPr l Z mL_valueAnew hhL_valueAnew mX9_valueAnew [.ref 0, .int a, .ref 106] [.ref 67, .int a] false (zA4 μ σ π g) := by
  cases hb : cellB a with
  | true =>
    obtain ⟨c, hc, rfl⟩ := cell_nI hb
    have hn := h.cw.nn
    refine pw_q2 (X := σ 88 c) (kx := 3) h h6 (w_valueAnew (Q := fun x μx => x = σ 88 c ∧ zKp n σ μ σ π g μx) hZ h.cw.k0 (zCt_mono (c_X8_valueAnew hZ hO h.cw h.2.1 hc) (fun r μ' q => ⟨_, q.1, rfl, q.2⟩)) (fun x μx q => ?_)) (by decide) (fun μc σc πc g' hL e => ?_)
    · obtain ⟨-, μ', σ', π', g', q2, -, q4, -⟩ := q
      exact ⟨μ', σ', π', g', q2, (q4.2 106 (by omega)).1.trans h6.1, (q4.2 106 (by omega)).2.trans h6.2⟩
    · rw [← e 88 (by decide) (by decide) c]
      exact zCt_mono (c_X9_valueAnew_ok hZ hL.1 hc) (fun r μy q => ⟨q.1, _, g', q.2, fun _ _ => rfl, hL.m 45 0 (Or.inr rfl), zu_eq _ _ _ _⟩)
  | false =>
    have hw := (w_valueAnew_iob (Q := fun μx => μx = zA4 μ σ π g) (a := a) (μ := zA4 μ σ π g) hZ h.cw.k0 hN (x_X8_valueAnew hZ hX hb))
    exact pw_no1 (t := 1) h h6 hw (by decide) (by decide) (c_X9_valueAnew_no hZ h.1 hb)
set_option maxHeartbeats 1000000 in
theorem p_trial {l : Launch} {Z : zZ} (hZ : zSt l Z) (hO : zOps Z) (hX : zXs Z) (hN : zNs Z) (hSs : zSs Z) {n L : Nat} {μ : zMem} {σ : zS2} {π : zP2} {g : zG2} (h : LW n L μ σ π) (h6 : zK μ 106 = 3 ∧ zL μ 106 = 1) (a : Int32) : zPr l Z mL_trial hhL_trial mX9_trial [.ref 0, .int a, .ref 106] [.ref 67, .int a] false (zA4 μ σ π g) := by
  cases hb : svcB a with
  | true =>
    obtain ⟨c, hc, rfl⟩ := svc_nI hb
    have hn := h.cw.nn
    obtain ⟨E, hE2, hE⟩ := h.2.1.now
    refine pw_q2 (X := trF σ E n 97 c) (kx := 8) h h6 (w_trial (Q := fun x μx => x = trF σ E n 97 c ∧ zKp n σ μ σ π g μx) hZ h.cw.k0 (zCt_mono (c_X8_trial hZ hO h.cw h.2.1 hE hE2 hc) (fun r μ' q => ⟨_, q.1, rfl, q.2⟩)) (fun x μx q => ?_)) (by decide) (fun μc σc πc g' hL e => ?_)
    · obtain ⟨-, μ', σ', π', g', q2, -, q4, -⟩ := q
      exact ⟨μ', σ', π', g', q2, (q4.2 106 (by omega)).1.trans h6.1, (q4.2 106 (by omega)).2.trans h6.2⟩
    · rw [← (trF_q (zq_trans (qcl (n := n) e) (q45 σc 0)) E).eq 97 (by decide) c]
      obtain ⟨t1, t2⟩ := hL.trial (S := zu σc 67 45 0) (E := E) rfl
      exact zCt_mono (c_X9_trial_ok hZ hL.1 hL.2.1.1 hc ((e 67 (by decide) (by decide) 34).trans hE) hE2 rfl) (fun r μy q => by
        obtain ⟨q1, g2, q2, q3⟩ := q
        exact ⟨q1, _, g2, q2, q3, t1, t2⟩)
  | false =>
    have hw := (w_trial_iob (Q := fun μx => μx = zA4 μ σ π g) (a := a) (μ := zA4 μ σ π g) hZ h.cw.k0 hN (x_X8_trial hZ hX hb))
    exact pw_no1 (t := 1) h h6 hw (by decide) (by decide) (c_X9_trial_no hZ h.1 hb)
