/-! ===== the law's body, last pieces; its loop ===== -/
set_option maxRecDepth 100000 in
set_option maxHeartbeats 4000000 in
theorem seg_f {l : Launch} {Z : zZ} (hE : zEv l Z) {nm : String} {τ : zT} {mc ms : Nat} (hY : zCy l Z τ (mLw nm) 200 mc ms) {F : State → Prop} {b0 : Nat} {n L : Nat} {μ : zMem} {σ : zS2} {π : zP2} {g : zG2} {S : zS2} {c k bf bh : Nat} (hK : lwK μ) (hB : lwB bf bh) (h : PW n L μ σ π S) {i : Nat} (hi : i < 36) {held x : Int32} {v8 v9 v11 v12 : Option Value} (hc : c ≤ mc) (hk : k ≤ ms)
    (hnext : ∀ (μ1 : zMem) (σ1 : zS2) (π1 : zP2) (g1 : zG2) (w11 : Option Value), PW n L μ1 σ1 π1 S → zgr μ μ1 → zJL b0 τ F 459 [none, some (.ref 0), some (.ref 67), some (.ref bf), some (.ref bh), some (.int (held)), some (.int 1), some (.int (nI i)), v8, v9, some (.int (x)), w11, v12] [] (zA4 μ1 σ1 π1 g1) (c) (k)) : zJL b0 τ F 395 [none, some (.ref 0), some (.ref 67), some (.ref bf), some (.ref bh), some (.int (held)), some (.int 1), some (.int (nI i)), v8, v9, some (.int (x)), v11, v12] [] (zA4 μ σ π g) (c) (k) := by
  have hT := hY.1
  have hn70 := h.cw.nn
  have hb := hB.b
  by_cases q5 : i % 5 = 0
  · refine Q_iload (i := 6) hT dL_law_395 rfl ?_
    refine Q_if_eq (tgt := 459) hT dL_law_397 (by decide) (fun qz => absurd qz ((by decide))) (fun _ => ?_)
    refine Q_iload (i := 7) hT dL_law_400 rfl ?_
    refine Q_iconst (v := 5) hT dL_law_402 rfl ?_
    refine Q_irem (d := 5) hT dL_law_403 rfl rfl (by omega) (by decide) (by decide) ?_
    refine Q_if_ne (tgt := 459) hT dL_law_404 (by decide) (fun qz => absurd ((by rw [q5]; rfl)) qz) (fun _ => ?_)
    refine Q_aload_n (i := 1) hT dL_law_407 rfl rfl ?_
    refine Q_aload_n (i := 3) hT dL_law_408 rfl rfl ?_
    refine Q_callS hY dL_law_409 mfL_sees mtL_sees kL_180 (c_L_sees hE.1 h (hB.rf μ) (hB.f hK).1 (hB.f hK).2) rfl (by decide) rfl rfl (Nat.le_of_ble_eq_true rfl) (by omega) (by omega) (fun r μq hq => ?_)
    obtain ⟨rfl, σ1, rfl, he1, hs1⟩ := hq
    have hP1 : PW n L μ σ1 π S := h.row (hB.rf μ) he1
    show zJL b0 τ F _ _ [] (zA4 μ σ1 π g) _ _
    refine Q_aload_n (i := 1) hT dL_law_412 rfl rfl ?_
    refine Q_iload (i := 7) hT dL_law_413 rfl ?_
    refine Q_iconst (v := 5) hT dL_law_415 rfl ?_
    refine Q_idiv (d := 5) hT dL_law_416 rfl rfl (by omega) (by decide) (by decide) ?_
    refine Q_iconst (v := 5) hT dL_law_417 rfl ?_
    refine Q_irem (d := 5) hT dL_law_418 rfl rfl (Nat.lt_of_le_of_lt (Nat.div_le_self _ _) (by omega)) (by decide) (by decide) ?_
    refine Q_callW hY dL_law_419 mfL_trial mtL_trial mwL_197 (q_trial hE.1 hE.2.1 hP1 (Nat.mod_lt _ (by decide))) rfl (by decide) rfl rfl (Nat.le_of_ble_eq_true rfl) (by omega) (by omega) (fun r μq hq => ?_)
    obtain ⟨⟨a, ha, rfl⟩, μ2, σ2, π2, g2, rfl, hP2, hg2, hc2⟩ := hq
    have hK2 : lwK μ2 := hK.mv hg2 hn70
    show zJL b0 τ F _ _ [.int (nI a)] (zA4 μ2 σ2 π2 g2) _ _
    refine Q_istore (i := 11) hT dL_law_422 (Nat.le_of_ble_eq_true rfl) (by decide) ?_
    show zJL b0 τ F _ [none, some (.ref 0), some (.ref 67), some (.ref bf), some (.ref bh), some (.int (held)), some (.int 1), some (.int (nI i)), v8, v9, some (.int (x)), some (.int (nI a)), v12] _ _ _ _
    refine Q_aload_n (i := 1) hT dL_law_424 rfl rfl ?_
    refine Q_aload (i := 4) hT dL_law_425 rfl ?_
    refine Q_callS hY dL_law_427 mfL_sees mtL_sees kL_180 (c_L_sees hE.1 hP2 (hB.rh μ2) (hB.h hK2).1 (hB.h hK2).2) rfl (by decide) rfl rfl (Nat.le_of_ble_eq_true rfl) (by omega) (by omega) (fun r μq hq => ?_)
    obtain ⟨rfl, σ3, rfl, he3, hs3⟩ := hq
    have hP3 : PW n L μ2 σ3 π2 S := hP2.row (hB.rh μ2) he3
    have ea : ∀ j, j < 47 → σ3 bf j = σ3 bh j := fun j hj => by rw [hs3 j hj, he3 bf hB.ne j, (hc2 bf hb.1 hb.2.1 j).1, hs1 j hj]
    show zJL b0 τ F _ _ [] (zA4 μ2 σ3 π2 g2) _ _
    refine Q_iload (i := 11) hT dL_law_430 rfl ?_
    refine Q_if_lt (tgt := 456) hT dL_law_432 (by decide) (fun qz => absurd qz ((nI_pos (n := a) (by omega)))) (fun _ => ?_)
    refine Q_iload (i := 11) hT dL_law_435 rfl ?_
    refine Q_sipush (v := 5760) hT dL_law_437 rfl ?_
    refine Q_icmp_gt (tgt := 456) hT dL_law_440 (by decide) (fun qz => absurd qz ((Int32.not_lt.mpr (nI_le (b := 5760) ha (by decide))))) (fun _ => ?_)
    refine Q_aload_n (i := 3) hT dL_law_443 rfl rfl ?_
    refine Q_aload (i := 4) hT dL_law_444 rfl ?_
    refine Q_callS hY dL_law_446 mfL_areAlike mtL_areAlike kL_187 (c_L_areAlike hE.1 (hB.f hK2) (hB.h hK2) ea) rfl (by decide) rfl rfl (Nat.le_of_ble_eq_true rfl) (by omega) (by omega) (fun r μq hq => ?_)
    obtain ⟨rfl, rfl⟩ := hq
    show zJL b0 τ F _ _ [.int 1] _ _ _
    refine Q_if_eq (tgt := 456) hT dL_law_449 (by decide) (fun qz => absurd qz ((by decide))) (fun _ => ?_)
    refine Q_iconst (v := 1) hT dL_law_452 rfl ?_
    refine Q_goto (tgt := 457) hT dL_law_453 (by decide) ?_
    refine Q_istore (i := 6) hT dL_law_457 (Nat.le_of_ble_eq_true rfl) (by decide) ?_
    show zJL b0 τ F _ [none, some (.ref 0), some (.ref 67), some (.ref bf), some (.ref bh), some (.int (held)), some (.int (1)), some (.int (nI i)), v8, v9, some (.int (x)), some (.int (nI a)), v12] _ _ _ _
    exact (hnext μ2 σ3 π2 g2 _ hP3 hg2).wide (by omega) (by omega)
  · refine Q_iload (i := 6) hT dL_law_395 rfl ?_
    refine Q_if_eq (tgt := 459) hT dL_law_397 (by decide) (fun qz => absurd qz ((by decide))) (fun _ => ?_)
    refine Q_iload (i := 7) hT dL_law_400 rfl ?_
    refine Q_iconst (v := 5) hT dL_law_402 rfl ?_
    refine Q_irem (d := 5) hT dL_law_403 rfl rfl (by omega) (by decide) (by decide) ?_
    refine Q_if_ne (tgt := 459) hT dL_law_404 (by decide) (fun _ => ?_) (fun qz => absurd qz ((nI_ne0 (Nat.pos_of_ne_zero q5) (by omega))))
    exact hnext μ σ π g _ h zgr.rf

set_option maxRecDepth 100000 in
set_option maxHeartbeats 4000000 in
theorem seg_g {l : Launch} {Z : zZ} (hE : zEv l Z) {nm : String} {τ : zT} {mc ms : Nat} (hY : zCy l Z τ (mLw nm) 200 mc ms) {F : State → Prop} {b0 : Nat} {n L : Nat} {μ : zMem} {σ : zS2} {π : zP2} {g : zG2} {S : zS2} {c k bf bh : Nat} (hK : lwK μ) (hB : lwB bf bh) (h : PW n L μ σ π S) {N : Nat} {xs : Nat → Int32} (hX : zScZ b0 N xs Z) (hN : N < 2147483648) {i Y : Nat} (hi : i < 36) (hYb : Y < 2147483648) {held x : Int32} {v8 v11 v12 : Option Value} (hc : c ≤ mc) (hk : k ≤ ms)
    (hnext : ∀ (σ1 : zS2) (m : Nat), m ≤ 14 → PW n L μ σ1 π S → (∀ j, j < m → letB (σ1 67 j) = true) → zJL b0 τ F 513 [none, some (.ref 0), some (.ref 67), some (.ref bf), some (.ref bh), some (.int (held)), some (.int 1), some (.int (nI i)), v8, some (.int (nI (Y / 12))), some (.int (x)), some (.int (nI m)), some (.int (nI m))] [] (zA4 μ σ1 π g) (c) (k)) : zJL b0 τ F 459 [none, some (.ref 0), some (.ref 67), some (.ref bf), some (.ref bh), some (.int (held)), some (.int 1), some (.int (nI i)), v8, some (.int (nI (Y / 12))), some (.int (x)), v11, v12] [] (zA4 μ σ π g) (c) (k) := by
  have hT := hY.1
  have hz : Y / 12 < 2147483648 := Nat.lt_of_le_of_lt (Nat.div_le_self _ _) hYb
  obtain ⟨m, hm⟩ : ∃ m, m = 1 + Y / 12 % 14 := ⟨_, rfl⟩
  have hm14 : m ≤ 14 := by omega
  have loop : ∀ d q, q + d = m → ∀ σx : zS2, PW n L μ σx π S → (∀ j, j < q → letB (σx 67 j) = true) → zJL b0 τ F 471 [none, some (.ref 0), some (.ref 67), some (.ref bf), some (.ref bh), some (.int (held)), some (.int 1), some (.int (nI i)), v8, some (.int (nI (Y / 12))), some (.int (x)), some (.int (nI m)), some (.int (nI q))] [] (zA4 μ σx π g) (c) (k) := by
    intro d
    induction d with
    | zero =>
      intro q hq σx hP hl
      have : q = m := by omega
      subst this
      refine Q_iload (i := 12) hT dL_law_471 rfl ?_
      refine Q_iload (i := 11) hT dL_law_473 rfl ?_
      refine Q_icmp_ge (tgt := 513) hT dL_law_475 (by decide) (fun _ => ?_) (fun qz => absurd ((nI_le (Nat.le_refl q) (by omega))) qz)
      exact hnext σx q hm14 hP hl
    | succ d ih =>
      intro q hq σx hP hl
      have hqm : q < m := by omega
      refine Q_iload (i := 12) hT dL_law_471 rfl ?_
      refine Q_iload (i := 11) hT dL_law_473 rfl ?_
      refine Q_icmp_ge (tgt := 513) hT dL_law_475 (by decide) (fun qz => absurd qz (Int32.not_le.mpr (nI_lt hqm (by omega)))) (fun _ => ?_)
      refine Q_aload_n (i := 2) hT dL_law_478 rfl rfl ?_
      refine Q_iload (i := 12) hT dL_law_479 rfl ?_
      refine Q_aload0 hT dL_law_481 ?_
      refine M_iload (i := 7) hT dL_law_482 rfl ?_
      refine M_iconst (v := 3) hT dL_law_484 rfl ?_
      refine M_iload (i := 12) hT dL_law_485 rfl ?_
      refine M_imul hT dL_law_487 ?_
      refine M_topil (nI_mul 3 q) ?_
      refine M_iadd hT dL_law_488 ?_
      refine M_topil (nI_add i (3 * q)) ?_
      refine M_bipush (v := 61) hT dL_law_489 rfl ?_
      refine M_irem (d := 61) hT dL_law_491 rfl rfl (by omega) (by decide) (by decide) ?_
      refine M_cell hE.1 hY rfl hX hN (Nat.lt_trans (Nat.mod_lt _ (by decide)) (by decide)) dL_law_492 rfl (Nat.le_of_ble_eq_true rfl) (by decide) (by omega) (by omega) (fun Y2 hY2 => ?_)
      refine Q_bipush (v := 7) hT dL_law_495 rfl ?_
      refine Q_idiv (d := 7) hT dL_law_497 rfl rfl hY2 (by decide) (by decide) ?_
      refine Q_iconst (v := 5) hT dL_law_498 rfl ?_
      refine Q_iload (i := 12) hT dL_law_499 rfl ?_
      refine Q_imul hT dL_law_501 ?_
      refine Q_topil (nI_mul 5 q) ?_
      refine Q_iadd hT dL_law_502 ?_
      refine Q_topil (nI_add _ _) ?_
      refine Q_callS hY dL_law_503 mfL_sign mtL_sign kL_199 (c_L_sign hE.1 (x := Y2 / 7 + 5 * q) (by omega)) rfl (by decide) rfl rfl (Nat.le_of_ble_eq_true rfl) (by omega) (by omega) (fun r μq hq => ?_)
      obtain ⟨v, rfl, hv, rfl⟩ := hq
      show zJL b0 τ F _ _ [.int v, .int (nI q), .ref 67] _ _ _
      refine Q_iast hT dL_law_506 hK.1.1 (by show zix (nI q) q (zL μ 67); rw [hK.1.2]; exact zix_nI (by omega) (by decide)) ?_
      have hP2 : PW n L μ (zu σx 67 q v) π S := hP.row (r := 67) ⟨by decide, Or.inl (by decide)⟩ (fun x hx j => zu_ne _ _ _ _ hx j)
      have hl2 : ∀ j, j < q + 1 → letB (zu σx 67 q v 67 j) = true := fun j hj => by
        by_cases z : j = q
        · rw [z, zu_eq]; exact hv
        · rw [zu_nj _ _ _ _ _ z]; exact hl j (by omega)
      show zJL b0 τ F _ _ [] (zA4 μ (zu σx 67 q v) π g) _ _
      refine Q_iinc hT dL_law_507 (by decide) rfl (nI_inc _) ?_
      show zJL b0 τ F _ [none, some (.ref 0), some (.ref 67), some (.ref bf), some (.ref bh), some (.int (held)), some (.int 1), some (.int (nI i)), v8, some (.int (nI (Y / 12))), some (.int (x)), some (.int (nI m)), some (.int (nI (q + 1)))] _ _ _ _
      refine Q_goto (tgt := 471) hT dL_law_510 (by decide) ?_
      exact (ih (q + 1) (by omega) (zu σx 67 q v) hP2 hl2).wide (by omega) (by omega)
  refine Q_iconst (v := 1) hT dL_law_459 rfl ?_
  refine Q_iload (i := 9) hT dL_law_460 rfl ?_
  refine Q_bipush (v := 14) hT dL_law_462 rfl ?_
  refine Q_irem (d := 14) hT dL_law_464 rfl rfl hz (by decide) (by decide) ?_
  refine Q_iadd hT dL_law_465 ?_
  refine Q_topil ((nI_add 1 _).trans (by rw [← hm])) ?_
  refine Q_istore (i := 11) hT dL_law_466 (Nat.le_of_ble_eq_true rfl) (by decide) ?_
  show zJL b0 τ F _ [none, some (.ref 0), some (.ref 67), some (.ref bf), some (.ref bh), some (.int (held)), some (.int 1), some (.int (nI i)), v8, some (.int (nI (Y / 12))), some (.int (x)), some (.int (nI m)), v12] _ _ _ _
  refine Q_iconst (v := 0) hT dL_law_468 rfl ?_
  refine Q_istore (i := 12) hT dL_law_469 (Nat.le_of_ble_eq_true rfl) (by decide) ?_
  show zJL b0 τ F _ [none, some (.ref 0), some (.ref 67), some (.ref bf), some (.ref bh), some (.int (held)), some (.int 1), some (.int (nI i)), v8, some (.int (nI (Y / 12))), some (.int (x)), some (.int (nI m)), some (.int (nI 0))] _ _ _ _
  exact loop m 0 (Nat.zero_add m) σ h (fun j hj => absurd hj (Nat.not_lt_zero j))

set_option maxRecDepth 100000 in
set_option maxHeartbeats 4000000 in
theorem seg_h {l : Launch} {Z : zZ} (hE : zEv l Z) {nm : String} {τ : zT} {mc ms : Nat} (hY : zCy l Z τ (mLw nm) 200 mc ms) {F : State → Prop} {b0 : Nat} {n L : Nat} {μ : zMem} {σ : zS2} {π : zP2} {g : zG2} {S : zS2} {c k bf bh : Nat} (hK : lwK μ) (hB : lwB bf bh) (h : PW n L μ σ π S) {i m : Nat} (hi : i < 36) (hm14 : m ≤ 14) (hl : ∀ j, j < m → letB (σ 67 j) = true) {held x : Int32} {v8 v9 v12 : Option Value} (hc : c + 6 ≤ mc) (hk : k + 76 ≤ ms)
    (hnext : ∀ (L' : Nat) (μ1 : zMem) (σ1 : zS2) (π1 : zP2) (g1 : zG2) (S' : zS2) (w12 : Option Value), PW n L' μ1 σ1 π1 S' → zgr μ μ1 → zq n S S' → zJL b0 τ F 570 [none, some (.ref 0), some (.ref 67), some (.ref bf), some (.ref bh), some (.int (held)), some (.int 1), some (.int (nI i)), v8, v9, some (.int (x)), some (.int (nI m)), w12] [] (zA4 μ1 σ1 π1 g1) (c + 6) (k + 76)) : zJL b0 τ F 513 [none, some (.ref 0), some (.ref 67), some (.ref bf), some (.ref bh), some (.int (held)), some (.int 1), some (.int (nI i)), v8, v9, some (.int (x)), some (.int (nI m)), v12] [] (zA4 μ σ π g) (c) (k) := by
  have hT := hY.1
  by_cases q2 : i % 2 = 0
  · refine Q_iload (i := 6) hT dL_law_513 rfl ?_
    refine Q_if_eq (tgt := 570) hT dL_law_515 (by decide) (fun qz => absurd qz ((by decide))) (fun _ => ?_)
    refine Q_iload (i := 7) hT dL_law_518 rfl ?_
    refine Q_iconst (v := 2) hT dL_law_520 rfl ?_
    refine Q_irem (d := 2) hT dL_law_521 rfl rfl (by omega) (by decide) (by decide) ?_
    refine Q_if_ne (tgt := 570) hT dL_law_522 (by decide) (fun qz => absurd ((by rw [q2]; rfl)) qz) (fun _ => ?_)
    refine Q_aload_n (i := 1) hT dL_law_525 rfl rfl ?_
    refine Q_callV (ci := 8) (b := 0) hY dL_law_526 mfX8_steps miX8_steps msX8_steps kL_142 ⟨by decide, rfl⟩ h.cw.k0 (c_X8_steps hE.1 h.cw) rfl (by decide) rfl rfl (Nat.le_of_ble_eq_true rfl) (by omega) (by omega) (fun r μq hq => ?_)
    obtain ⟨rfl, rfl⟩ := hq
    show zJL b0 τ F _ _ [.int (nI n)] _ _ _
    refine Q_istore (i := 12) hT dL_law_529 (Nat.le_of_ble_eq_true rfl) (by decide) ?_
    show zJL b0 τ F _ [none, some (.ref 0), some (.ref 67), some (.ref bf), some (.ref bh), some (.int (held)), some (.int 1), some (.int (nI i)), v8, v9, some (.int (x)), some (.int (nI m)), some (.int (nI n))] _ _ _ _
    refine Q_aload_n (i := 1) hT dL_law_531 rfl rfl ?_
    refine Q_aload_n (i := 2) hT dL_law_532 rfl rfl ?_
    refine Q_iload (i := 11) hT dL_law_533 rfl ?_
    refine Q_callS hY dL_law_535 mfL_isFault mtL_isFault kL_202 (c_L_isFault hE.1 hE.2.1 hE.2.2.1 hE.2.2.2.1 hE.2.2.2.2 h ⟨by decide, by decide, hK.1.1, hK.1.2⟩ (by omega) hl) rfl (by decide) rfl rfl (Nat.le_of_ble_eq_true rfl) (by omega) (by omega) (fun r μq hq => ?_)
    obtain ⟨rfl, n2, L2, μ2, σ2, π2, g2, S2, rfl, hP2, hg2, hc2, ho⟩ := hq
    show zJL b0 τ F _ _ [.int 1] (zA4 μ2 σ2 π2 g2) _ _
    refine Q_istore (i := 6) hT dL_law_538 (Nat.le_of_ble_eq_true rfl) (by decide) ?_
    show zJL b0 τ F _ [none, some (.ref 0), some (.ref 67), some (.ref bf), some (.ref bh), some (.int (held)), some (.int (1)), some (.int (nI i)), v8, v9, some (.int (x)), some (.int (nI m)), some (.int (nI n))] _ _ _ _
    rcases ho with ⟨rfl, hz2⟩ | ⟨rfl, hn40, T, hz1, hz2, hz3⟩
    · refine Q_iload (i := 6) hT dL_law_540 rfl ?_
      refine Q_if_eq (tgt := 567) hT dL_law_542 (by decide) (fun qz => absurd qz ((by decide))) (fun _ => ?_)
      refine Q_aload_n (i := 1) hT dL_law_545 rfl rfl ?_
      refine Q_callV (ci := 8) (b := 0) hY dL_law_546 mfX8_steps miX8_steps msX8_steps kL_142 ⟨by decide, rfl⟩ hP2.cw.k0 (c_X8_steps hE.1 hP2.cw) rfl (by decide) rfl rfl (Nat.le_of_ble_eq_true rfl) (by omega) (by omega) (fun r μq hq => ?_)
      obtain ⟨rfl, rfl⟩ := hq
      show zJL b0 τ F _ _ [.int (nI n2)] (zA4 μ2 σ2 π2 g2) _ _
      refine Q_iload (i := 12) hT dL_law_549 rfl ?_
      refine Q_icmp_eq (tgt := 563) hT dL_law_551 (by decide) (fun _ => ?_) (fun qz => absurd (rfl) qz)
      refine Q_iconst (v := 1) hT dL_law_563 rfl ?_
      refine Q_goto (tgt := 568) hT dL_law_564 (by decide) ?_
      refine Q_istore (i := 6) hT dL_law_568 (Nat.le_of_ble_eq_true rfl) (by decide) ?_
      show zJL b0 τ F _ [none, some (.ref 0), some (.ref 67), some (.ref bf), some (.ref bh), some (.int (held)), some (.int (1)), some (.int (nI i)), v8, v9, some (.int (x)), some (.int (nI m)), some (.int (nI n2))] _ _ _ _
      exact (hnext L2 μ2 σ2 π2 g2 S2 _ hP2 hg2 hz2).wide (by omega) (by omega)
    · refine Q_iload (i := 6) hT dL_law_540 rfl ?_
      refine Q_if_eq (tgt := 567) hT dL_law_542 (by decide) (fun qz => absurd qz ((by decide))) (fun _ => ?_)
      refine Q_aload_n (i := 1) hT dL_law_545 rfl rfl ?_
      refine Q_callV (ci := 8) (b := 0) hY dL_law_546 mfX8_steps miX8_steps msX8_steps kL_142 ⟨by decide, rfl⟩ hP2.cw.k0 (c_X8_steps hE.1 hP2.cw) rfl (by decide) rfl rfl (Nat.le_of_ble_eq_true rfl) (by omega) (by omega) (fun r μq hq => ?_)
      obtain ⟨rfl, rfl⟩ := hq
      show zJL b0 τ F _ _ [.int (nI (n + 1))] (zA4 μ2 σ2 π2 g2) _ _
      refine Q_iload (i := 12) hT dL_law_549 rfl ?_
      refine Q_icmp_eq (tgt := 563) hT dL_law_551 (by decide) (fun qz => absurd qz ((fun z => absurd ((nI_eq (by have := hP2.n40; omega) (by omega)).mp z) (by omega)))) (fun _ => ?_)
      refine Q_aload_n (i := 1) hT dL_law_554 rfl rfl ?_
      refine Q_callW hY dL_law_555 mfL_undo mtL_undo mwL_194 (q_undo hE.1 hE.2.1 hP2) rfl (by decide) rfl rfl (Nat.le_of_ble_eq_true rfl) (by omega) (by omega) (fun r μq hq => ?_)
      obtain ⟨rfl, μ3, σ3, π3, g3, rfl, hP3, hg3, hc3⟩ := hq
      have hz4 := back_q h.cv hz1 hz2 hz3
      show zJL b0 τ F _ _ [.int (nI n)] (zA4 μ3 σ3 π3 g3) _ _
      refine Q_iload (i := 12) hT dL_law_558 rfl ?_
      refine Q_icmp_ne (tgt := 567) hT dL_law_560 (by decide) (fun qz => absurd (rfl) qz) (fun _ => ?_)
      refine Q_iconst (v := 1) hT dL_law_563 rfl ?_
      refine Q_goto (tgt := 568) hT dL_law_564 (by decide) ?_
      refine Q_istore (i := 6) hT dL_law_568 (Nat.le_of_ble_eq_true rfl) (by decide) ?_
      show zJL b0 τ F _ [none, some (.ref 0), some (.ref 67), some (.ref bf), some (.ref bh), some (.int (held)), some (.int (1)), some (.int (nI i)), v8, v9, some (.int (x)), some (.int (nI m)), some (.int (nI n))] _ _ _ _
      exact (hnext L2 μ3 σ3 π3 g3 _ _ hP3 (hg2.tr hg3) hz4).wide (by omega) (by omega)
  · refine Q_iload (i := 6) hT dL_law_513 rfl ?_
    refine Q_if_eq (tgt := 570) hT dL_law_515 (by decide) (fun qz => absurd qz ((by decide))) (fun _ => ?_)
    refine Q_iload (i := 7) hT dL_law_518 rfl ?_
    refine Q_iconst (v := 2) hT dL_law_520 rfl ?_
    refine Q_irem (d := 2) hT dL_law_521 rfl rfl (by omega) (by decide) (by decide) ?_
    refine Q_if_ne (tgt := 570) hT dL_law_522 (by decide) (fun _ => ?_) (fun qz => absurd qz ((nI_ne0 (Nat.pos_of_ne_zero q2) (by omega))))
    exact (hnext L μ σ π g S _ h zgr.rf (zq_refl _ _)).wide (by omega) (by omega)

set_option maxRecDepth 100000 in
set_option maxHeartbeats 4000000 in
theorem law_loop {l : Launch} {Z : zZ} (hE : zEv l Z) {nm : String} {τ : zT} {mc ms : Nat} (hY : zCy l Z τ (mLw nm) 200 mc ms) {F : State → Prop} {b0 N : Nat} {xs : Nat → Int32} (hX : zScZ b0 N xs Z) (hN : N < 2147483648)
    (hEnd : ∀ (bf bh i : Nat) (held : Int32) (v8 v9 v10 v11 v12 : Option Value) (μ : zMem) (σ : zS2) (π : zP2) (g : zG2) (c k : Nat), c ≤ mc → k ≤ ms → zJL b0 τ F 576 [none, some (.ref 0), some (.ref 67), some (.ref bf), some (.ref bh), some (.int (held)), some (.int 1), some (.int (nI i)), v8, v9, v10, v11, v12] [] (zA4 μ σ π g) (c) (k)) :
    ∀ d i, i + d = 36 → ∀ {n L : Nat} {μ : zMem} {σ : zS2} {π : zP2} {g : zG2} {S : zS2} {c k bf bh : Nat} {held : Int32} {v8 v9 v10 v11 v12 : Option Value}, lwK μ → lwB bf bh → PW n L μ σ π S → (∀ c, c < 12 → bt held c = decide (S 80 c ≠ 0)) → c + 20 * d ≤ mc → k + 300 * d ≤ ms → zJL b0 τ F 37 [none, some (.ref 0), some (.ref 67), some (.ref bf), some (.ref bh), some (.int (held)), some (.int 1), some (.int (nI i)), v8, v9, v10, v11, v12] [] (zA4 μ σ π g) (c) (k) := by
  have hT := hY.1
  intro d
  induction d with
  | zero =>
    intro i hi n L μ σ π g S c k bf bh held v8 v9 v10 v11 v12 hK hB h hh hc hk
    have : i = 36 := by omega
    subst this
    refine Q_iload (i := 7) hT dL_law_37 rfl ?_
    refine Q_bipush (v := 36) hT dL_law_39 rfl ?_
    refine Q_icmp_ge (tgt := 576) hT dL_law_41 (by decide) (fun _ => ?_) (fun qz => absurd ((nI_le (a := 36) (b := 36) (by decide) (by decide))) qz)
    exact hEnd bf bh 36 held v8 v9 v10 v11 v12 μ σ π g c k (by omega) (by omega)
  | succ d ih =>
    intro i hi n L μ σ π g S c k bf bh held v8 v9 v10 v11 v12 hK hB h hh hc hk
    have hi36 : i < 36 := by omega
    have hn0 := h.cw.nn
    refine seg_a hE hY hK hB h hX hN hi36 (by omega) (by omega) (fun Y x n1 L1 μ1 σ1 π1 g1 S1 hYb hP1 hg1 hd1 hf1 hh1 => ?_)
    have hK1 := hK.mv hg1 hn0
    have hn1 := hP1.cw.nn
    refine seg_b hE hY hK1 hB hP1 (n' := n1) (L' := L1) hYb h.cv hd1 (by omega) (by omega) hf1 hh1 ?_
    refine seg_c hE hY hK1 hB hP1 hYb h.cv hd1 hh (fun held2 hh2 => ?_)
    refine seg_d hE hY hK1 hB hP1 hi36 (by omega) (by omega) hh2 (fun μ2 σ2 π2 g2 hP2 hg2 hs2 => ?_)
    have hK2 := hK1.mv hg2 hn1
    have hn2 := hP2.cw.nn
    have hb := hB.b
    refine seg_e hE hY hK2 hB hP2 hi36 hYb h.cv hd1 (by omega) (by omega) (fun j hj => (hs2 bf hb.1 hb.2.1 j).trans (hf1 j hj)) (fun bf3 bh3 L3 μ3 σ3 π3 g3 S3 w11 w12 hB3 hP3 hg3 hz3 => ?_)
    have hK3 := hK2.mv hg3 hn2
    have hn3 := hP3.cw.nn
    refine seg_f hE hY hK3 hB3 hP3 hi36 (by omega) (by omega) (fun μ4 σ4 π4 g4 w11' hP4 hg4 => ?_)
    have hK4 := hK3.mv hg4 hn3
    have hn4 := hP4.cw.nn
    refine seg_g hE hY hK4 hB3 hP4 hX hN hi36 hYb (by omega) (by omega) (fun σ5 m hm hP5 hl5 => ?_)
    refine seg_h hE hY hK4 hB3 hP5 hi36 hm hl5 (by omega) (by omega) (fun L6 μ6 σ6 π6 g6 S6 w12' hP6 hg6 hz6 => ?_)
    have hK6 := hK4.mv hg6 hn4
    have hh6 : ∀ c, c < 12 → bt held2 c = decide (S6 80 c ≠ 0) := fun c hc => by rw [hh2 c hc, hz6.eq 80 (by decide), hz3.eq 80 (by decide)]
    refine Q_iinc hT dL_law_570 (by decide) rfl (nI_inc _) ?_
    show zJL b0 τ F _ [none, some (.ref 0), some (.ref 67), some (.ref bf3), some (.ref bh3), some (.int (held2)), some (.int 1), some (.int (nI (i + 1))), some (.int (nI Y)), some (.int (nI (Y / 12))), some (.int (x)), some (.int (nI m)), w12'] _ _ _ _
    refine Q_goto (tgt := 37) hT dL_law_573 (by decide) ?_
    exact ih (i + 1) (by omega) hK6 hB3 hP6 hh6 (by omega) (by omega)

