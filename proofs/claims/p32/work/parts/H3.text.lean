/-! ===== texts, typed by the law ===== -/
theorem low_let {a : Int32} (h : letB a = true) : (a.toUInt32 % 65536).toInt32 = a := by
  have h1 := chV_let h
  unfold chV at h1
  have h2 : Value.int (a.toUInt32 % 65536).toInt32 = Value.int a := h1
  injection h2
theorem letB_dig : ∀ o, o < 10 → letB (nI (48 + o)) = true := by decide +kernel
theorem zPf2.rf {σ : zS2} : zPf2 σ σ := fun _ _ _ _ => rfl
theorem zPf2.tr {σ σ1 σ2 : zS2} (h : zPf2 σ σ1) (h2 : zPf2 σ1 σ2) : zPf2 σ σ2 := fun b j p q => (h2 b j p q).trans (h b j p q)
/-- the text has become f 0 .. f (m - 1), nothing else has changed -/
def TXF (S S' : zS2) (f : Nat → Int32) (m : Nat) : Prop := (∀ b j, b ≠ 68 → ¬ (b = 67 ∧ j = 1) → S' b j = S b j) ∧ ∀ j, j < m → S' 68 j = f j
theorem TXF.no {S : zS2} {f : Nat → Int32} : TXF S (zu S 67 1 0) f 0 := ⟨fun b j _ h2 => by simp only [zu, h2, if_false], fun j hj => absurd hj (by omega)⟩
theorem TXF.more {S S1 S2 : zS2} {f : Nat → Int32} {m : Nat} (h : TXF S S1 f m) {a : Int32} (ha : f m = a) (e : S2 = zu (zu S1 68 m a) 67 1 (nI (m + 1))) : TXF S S2 f (m + 1) := by
  subst e
  refine ⟨fun b j h1 h2 => ?_, fun j hj => ?_⟩
  · simp only [zu, h1, h2, false_and, if_false]
    exact h.1 b j h1 h2
  · rw [zu_ne _ _ _ _ (by decide)]
    by_cases q : j = m
    · rw [q, zu_eq, ha]
    · rw [zu_nj _ _ _ _ _ q]
      exact h.2 j (by omega)
theorem TXF.q {S S' : zS2} {f : Nat → Int32} {m n : Nat} (h : TXF S S' f m) : zq n S S' := zq_near (fun b h1 _ j => h.1 b j (by omega) (by omega)) (h.1 67 33 (by decide) (by decide)) (h.1 67 34 (by decide) (by decide))
theorem PW.txt {n L L' : Nat} {μ : zMem} {σ σ' : zS2} {π : zP2} {S S' : zS2} (h : PW n L μ σ π S) (e : ∀ b j, b ≠ 68 → ¬ (b = 67 ∧ j = 1) → S' b j = S b j) (hT : TX L' S') (hC : CW n S' μ σ' π) : PW n L' μ σ' π S' := by
  have q : zq n S S' := zq_near (fun b h1 _ j => e b j (by omega) (by omega)) (e 67 33 (by decide) (by decide)) (e 67 34 (by decide) (by decide))
  exact ⟨h.cv.q q (e 67 42 (by decide) (by decide)), hT, fun k => by unfold stN; rw [e 104 k (by decide) (fun z => absurd z.1 (by decide))]; exact h.s30 k, hC⟩
section ZT
variable {l : Launch} {Z : zZ} {n L : Nat} {μ : zMem} {σ : zS2} {π : zP2} {g : zG2} {S : zS2}
theorem q_wipe (hZ : zSt l Z) (h : PW n L μ σ π S) : zCt l Z mX8_wipe 0 0 0 [.ref 0] (zA4 μ σ π g) (fun r μ' => r = some (.int (nI L)) ∧ ∃ σ', μ' = zA4 μ σ' π g ∧ PW n 0 μ σ' π (zu S 67 1 0) ∧ zPf2 σ σ') :=
  zCt_mono (c_X8_wipe hZ h.cw h.tx) (fun r μ' q => by
    obtain ⟨q1, σ', q2, q3, q4⟩ := q
    exact ⟨q1, σ', q2, h.txt (fun b j _ h2 => by simp only [zu, h2, if_false]) h.tx.none q3, q4⟩)
theorem q_type (hZ : zSt l Z) (hSs : zSs Z) (h : PW n L μ σ π S) (hL : L < 30) {a : Int32} (ha : letB a = true) : zCtW l Z mL_type hhL_type 7 0 0 [.ref 0, .int a] (zA4 μ σ π g) (fun r μ' => r = some (.int (nI (L + 1))) ∧ ∃ σ' S', μ' = zA4 μ σ' π g ∧ PW n (L + 1) μ σ' π S' ∧ S' = zu (zu S 68 L a) 67 1 (nI (L + 1)) ∧ zPf2 σ σ') := by
  have ct := c_X8_type (g := g) hZ hSs h.cw h.tx hL ha
  have hw := w_type (μ := zA4 μ σ π g) (a := a) (Q := fun x μ' => x = nI (L + 1) ∧ ∃ σ' S', μ' = zA4 μ σ' π g ∧ PW n (L + 1) μ σ' π S' ∧ S' = zu (zu S 68 L a) 67 1 (nI (L + 1)) ∧ zPf2 σ σ') (k := 6) (mc := 0) (ms := 0) hZ h.cw.k0 (by
    rw [low_let ha]
    refine zCt_mono ct (fun r μ' q => ?_)
    obtain ⟨q1, σ', q2, q3, q4⟩ := q
    exact ⟨_, q1, rfl, σ', _, q2, h.txt (fun b j h1 h2 => by simp only [zu, h1, h2, false_and, if_false]) (h.tx.more hL ha) q3, rfl, q4⟩)
  exact zCtW_mono hw (fun r μ' q => by
    obtain ⟨x, rfl, rfl, e⟩ := q
    exact ⟨rfl, e⟩)
end ZT
set_option maxRecDepth 100000 in
set_option maxHeartbeats 4000000 in
theorem c_L_types {l : Launch} {Z : zZ} (hZ : zSt l Z) (hSs : zSs Z) {μ : zMem} {σ : zS2} {π : zP2} {g : zG2} {n L m : Nat} {S : zS2} (h : PW n L μ σ π S) {a : Nat} (ha : 67 ≤ a ∧ zK μ a = 0 ∧ zL μ a = 30) (hm : m ≤ 30) (hl : ∀ j, j < m → letB (σ a j) = true) : zCt l Z mL_types 9 0 0 [.ref 0, .ref a, .int (nI m)] (zA4 μ σ π g) (fun v μ' => v = some (.int 1) ∧ ∃ σ' S', μ' = zA4 μ σ' π g ∧ PW n m μ σ' π S' ∧ TXF S S' (fun j => σ a j) m ∧ zPf2 σ σ') := by
  refine zCt_of hZ mpL_types (Nat.le_of_ble_eq_true rfl) (L := [some (.ref 0), some (.ref a), some (.int (nI m)), none, none]) rfl (fun τ hY => ?_)
  have hT := hY.1
  have loop : ∀ d i, i + d = m → ∀ (σx Sx : zS2), PW n i μ σx π Sx → TXF S Sx (fun j => σ a j) i → zPf2 σ σx → zJ τ (zFn τ (fun v μ' => v = some (.int 1) ∧ ∃ σ' S', μ' = zA4 μ σ' π g ∧ PW n m μ σ' π S' ∧ TXF S S' (fun j => σ a j) m ∧ zPf2 σ σ') 0 0) 16 [some (.ref 0), some (.ref a), some (.int (nI m)), some (.int 1), some (.int (nI i))] [] (zA4 μ σx π g) 0 0 := by
    intro d
    induction d with
    | zero =>
      intro i him σx Sx hP hF hz
      have : i = m := by omega
      subst this
      refine J_iload (i := 4) hT dL_types_16 rfl ?_
      refine J_iload_n (i := 2) hT dL_types_18 rfl rfl ?_
      refine J_icmp_ge (tgt := 53) hT dL_types_19 (by decide) (fun _ => ?_) (fun q => absurd (nI_le (Nat.le_refl i) (by omega)) q)
      refine J_iload_n (i := 3) hT dL_types_53 rfl rfl ?_
      exact J_iret hT dL_types_54 rfl rfl (⟨rfl, σx, Sx, rfl, hP, hF, hz⟩) (Nat.le_refl _) (Nat.le_refl _)
    | succ d ih =>
      intro i him σx Sx hP hF hz
      have hi : i < m := by omega
      have ex : σx a i = σ a i := hz a i (by omega) (by omega)
      refine J_iload (i := 4) hT dL_types_16 rfl ?_
      refine J_iload_n (i := 2) hT dL_types_18 rfl rfl ?_
      refine J_icmp_ge (tgt := 53) hT dL_types_19 (by decide) (fun q => absurd q (Int32.not_le.mpr (nI_lt hi (by omega)))) (fun _ => ?_)
      refine J_iload_n (i := 3) hT dL_types_22 rfl rfl ?_
      refine J_if_eq (tgt := 53) hT dL_types_23 (by decide) (fun q => absurd q ((by decide))) (fun _ => ?_)
      refine J_aload_n (i := 0) hT dL_types_26 rfl rfl ?_
      refine J_aload_n (i := 1) hT dL_types_27 rfl rfl ?_
      refine J_iload (i := 4) hT dL_types_28 rfl ?_
      refine R_iald hT dL_types_30 ha.2.1 ha.2.2 (zix_nI (by omega) (by decide)) ?_
      refine J_topil (ex) ?_
      refine J_callW hY dL_types_31 mfL_type mtL_type mwL_100 (q_type hZ hSs hP (by omega) (hl i hi)) rfl (by decide) rfl rfl (Nat.le_of_ble_eq_true rfl) (Nat.le_refl _) (Nat.le_refl _) (fun r1 μ1 hq => ?_)
      obtain ⟨rfl, σy, Sy, rfl, hP2, e2, hz2⟩ := hq
      show zJ _ _ _ _ (.int (nI (i + 1)) :: _) _ _ _
      refine J_iload (i := 4) hT dL_types_34 rfl ?_
      refine J_iconst (v := 1) hT dL_types_36 rfl ?_
      refine J_iadd hT dL_types_37 ?_
      refine J_topil (nI_1 i) ?_
      refine J_icmp_ne (tgt := 45) hT dL_types_38 (by decide) (fun q => absurd (rfl) q) (fun _ => ?_)
      refine J_iconst (v := 1) hT dL_types_41 rfl ?_
      refine J_goto (tgt := 46) hT dL_types_42 (by decide) ?_
      refine S_istore3 hT dL_types_46 rfl rfl ?_
      refine S_iinc4 hT dL_types_47 (nI_inc _) rfl ?_
      refine J_goto (tgt := 16) hT dL_types_50 (by decide) ?_
      exact ih (i + 1) (by omega) σy Sy hP2 (hF.more rfl e2) (hz.tr hz2)
  refine J_aload_n (i := 0) hT dL_types_0 rfl rfl ?_
  refine J_callV (ci := 8) hY dL_types_1 mfX8_wipe miX8_wipe msX8_wipe kL_97 ⟨by decide, rfl⟩ h.cw.k0 (q_wipe hZ h) rfl (by decide) rfl rfl (Nat.le_of_ble_eq_true rfl) (Nat.le_refl _) (Nat.le_refl _) (fun r1 μ1 hq => ?_)
  obtain ⟨rfl, σ0, rfl, hP0, hz0⟩ := hq
  show zJ _ _ _ _ (.int (nI L) :: _) _ _ _
  refine J_if_lt (tgt := 11) hT dL_types_4 (by decide) (fun q => absurd q (nI_pos (by have := h.tx.2.1; omega))) (fun _ => ?_)
  refine J_iconst (v := 1) hT dL_types_7 rfl ?_
  refine J_goto (tgt := 12) hT dL_types_8 (by decide) ?_
  refine S_istore3 hT dL_types_12 rfl rfl ?_
  refine J_iconst (v := 0) hT dL_types_13 rfl ?_
  refine S_istore4 hT dL_types_14 rfl ?_
  exact loop m 0 (Nat.zero_add m) σ0 _ hP0 TXF.no hz0

set_option maxRecDepth 100000 in
set_option maxHeartbeats 4000000 in
theorem c_L_sign {l : Launch} {Z : zZ} (hZ : zSt l Z) {x : Nat} (hx : x < 2147483648) {μ : zMem} : zCt l Z mL_sign 0 0 0 [.int (nI x)] μ (fun r μ' => ∃ v, r = some (.int v) ∧ letB v = true ∧ μ' = μ) := by
  refine zCt_of hZ mpL_sign (Nat.le_of_ble_eq_true rfl) (L := [some (.int (nI x)), none, none]) rfl (fun τ hY => ?_)
  have hT := hY.1
  have h18 : x % 18 = 0 ∨ x % 18 = 1 ∨ x % 18 = 2 ∨ x % 18 = 3 ∨ x % 18 = 4 ∨ x % 18 = 5 ∨ x % 18 = 6 ∨ x % 18 = 7 ∨ x % 18 = 8 ∨ x % 18 = 9 ∨ x % 18 = 10 ∨ x % 18 = 11 ∨ x % 18 = 12 ∨ x % 18 = 13 ∨ x % 18 = 14 ∨ x % 18 = 15 ∨ x % 18 = 16 ∨ x % 18 = 17 := by omega
  rcases h18 with hk | hk | hk | hk | hk | hk | hk | hk | hk | hk | hk | hk | hk | hk | hk | hk | hk | hk
  · refine J_iload_n (i := 0) hT dL_sign_0 rfl rfl ?_
    refine J_bipush (v := 18) hT dL_sign_1 rfl ?_
    refine J_irem (d := 18) hT dL_sign_3 rfl rfl hx (by decide) (by decide) ?_
    refine J_topil ((by rw [hk] : _ = nI 0)) ?_
    refine S_istore1 hT dL_sign_4 rfl rfl ?_
    refine J_iload_n (i := 1) hT dL_sign_5 rfl rfl ?_
    refine J_bipush (v := 6) hT dL_sign_6 rfl ?_
    refine J_icmp_ge (tgt := 65) hT dL_sign_8 (by decide) (fun q => absurd q ((by decide))) (fun _ => ?_)
    refine J_iload_n (i := 1) hT dL_sign_11 rfl rfl ?_
    refine J_if_ne (tgt := 20) hT dL_sign_12 (by decide) (fun q => absurd ((by decide)) q) (fun _ => ?_)
    refine J_bipush (v := 99) hT dL_sign_15 rfl ?_
    refine J_goto (tgt := 132) hT dL_sign_17 (by decide) ?_
    refine S_istore2 hT dL_sign_132 rfl rfl ?_
    refine J_iload_n (i := 2) hT dL_sign_133 rfl rfl ?_
    refine J_if_le (tgt := 141) hT dL_sign_134 (by decide) (fun q => absurd q ((by decide))) (fun _ => ?_)
    refine J_iload_n (i := 2) hT dL_sign_137 rfl rfl ?_
    refine J_goto (tgt := 187) hT dL_sign_138 (by decide) ?_
    exact J_iret hT dL_sign_187 rfl rfl (⟨_, rfl, by decide, rfl⟩) (Nat.le_refl _) (Nat.le_refl _)
  · refine J_iload_n (i := 0) hT dL_sign_0 rfl rfl ?_
    refine J_bipush (v := 18) hT dL_sign_1 rfl ?_
    refine J_irem (d := 18) hT dL_sign_3 rfl rfl hx (by decide) (by decide) ?_
    refine J_topil ((by rw [hk] : _ = nI 1)) ?_
    refine S_istore1 hT dL_sign_4 rfl rfl ?_
    refine J_iload_n (i := 1) hT dL_sign_5 rfl rfl ?_
    refine J_bipush (v := 6) hT dL_sign_6 rfl ?_
    refine J_icmp_ge (tgt := 65) hT dL_sign_8 (by decide) (fun q => absurd q ((by decide))) (fun _ => ?_)
    refine J_iload_n (i := 1) hT dL_sign_11 rfl rfl ?_
    refine J_if_ne (tgt := 20) hT dL_sign_12 (by decide) (fun _ => ?_) (fun q => absurd q ((by decide)))
    refine J_iload_n (i := 1) hT dL_sign_20 rfl rfl ?_
    refine J_iconst (v := 1) hT dL_sign_21 rfl ?_
    refine J_icmp_ne (tgt := 30) hT dL_sign_22 (by decide) (fun q => absurd ((by decide)) q) (fun _ => ?_)
    refine J_bipush (v := 114) hT dL_sign_25 rfl ?_
    refine J_goto (tgt := 132) hT dL_sign_27 (by decide) ?_
    refine S_istore2 hT dL_sign_132 rfl rfl ?_
    refine J_iload_n (i := 2) hT dL_sign_133 rfl rfl ?_
    refine J_if_le (tgt := 141) hT dL_sign_134 (by decide) (fun q => absurd q ((by decide))) (fun _ => ?_)
    refine J_iload_n (i := 2) hT dL_sign_137 rfl rfl ?_
    refine J_goto (tgt := 187) hT dL_sign_138 (by decide) ?_
    exact J_iret hT dL_sign_187 rfl rfl (⟨_, rfl, by decide, rfl⟩) (Nat.le_refl _) (Nat.le_refl _)
  · refine J_iload_n (i := 0) hT dL_sign_0 rfl rfl ?_
    refine J_bipush (v := 18) hT dL_sign_1 rfl ?_
    refine J_irem (d := 18) hT dL_sign_3 rfl rfl hx (by decide) (by decide) ?_
    refine J_topil ((by rw [hk] : _ = nI 2)) ?_
    refine S_istore1 hT dL_sign_4 rfl rfl ?_
    refine J_iload_n (i := 1) hT dL_sign_5 rfl rfl ?_
    refine J_bipush (v := 6) hT dL_sign_6 rfl ?_
    refine J_icmp_ge (tgt := 65) hT dL_sign_8 (by decide) (fun q => absurd q ((by decide))) (fun _ => ?_)
    refine J_iload_n (i := 1) hT dL_sign_11 rfl rfl ?_
    refine J_if_ne (tgt := 20) hT dL_sign_12 (by decide) (fun _ => ?_) (fun q => absurd q ((by decide)))
    refine J_iload_n (i := 1) hT dL_sign_20 rfl rfl ?_
    refine J_iconst (v := 1) hT dL_sign_21 rfl ?_
    refine J_icmp_ne (tgt := 30) hT dL_sign_22 (by decide) (fun _ => ?_) (fun q => absurd q ((by decide)))
    refine J_iload_n (i := 1) hT dL_sign_30 rfl rfl ?_
    refine J_iconst (v := 2) hT dL_sign_31 rfl ?_
    refine J_icmp_ne (tgt := 40) hT dL_sign_32 (by decide) (fun q => absurd ((by decide)) q) (fun _ => ?_)
    refine J_bipush (v := 108) hT dL_sign_35 rfl ?_
    refine J_goto (tgt := 132) hT dL_sign_37 (by decide) ?_
    refine S_istore2 hT dL_sign_132 rfl rfl ?_
    refine J_iload_n (i := 2) hT dL_sign_133 rfl rfl ?_
    refine J_if_le (tgt := 141) hT dL_sign_134 (by decide) (fun q => absurd q ((by decide))) (fun _ => ?_)
    refine J_iload_n (i := 2) hT dL_sign_137 rfl rfl ?_
    refine J_goto (tgt := 187) hT dL_sign_138 (by decide) ?_
    exact J_iret hT dL_sign_187 rfl rfl (⟨_, rfl, by decide, rfl⟩) (Nat.le_refl _) (Nat.le_refl _)
  · refine J_iload_n (i := 0) hT dL_sign_0 rfl rfl ?_
    refine J_bipush (v := 18) hT dL_sign_1 rfl ?_
    refine J_irem (d := 18) hT dL_sign_3 rfl rfl hx (by decide) (by decide) ?_
    refine J_topil ((by rw [hk] : _ = nI 3)) ?_
    refine S_istore1 hT dL_sign_4 rfl rfl ?_
    refine J_iload_n (i := 1) hT dL_sign_5 rfl rfl ?_
    refine J_bipush (v := 6) hT dL_sign_6 rfl ?_
    refine J_icmp_ge (tgt := 65) hT dL_sign_8 (by decide) (fun q => absurd q ((by decide))) (fun _ => ?_)
    refine J_iload_n (i := 1) hT dL_sign_11 rfl rfl ?_
    refine J_if_ne (tgt := 20) hT dL_sign_12 (by decide) (fun _ => ?_) (fun q => absurd q ((by decide)))
    refine J_iload_n (i := 1) hT dL_sign_20 rfl rfl ?_
    refine J_iconst (v := 1) hT dL_sign_21 rfl ?_
    refine J_icmp_ne (tgt := 30) hT dL_sign_22 (by decide) (fun _ => ?_) (fun q => absurd q ((by decide)))
    refine J_iload_n (i := 1) hT dL_sign_30 rfl rfl ?_
    refine J_iconst (v := 2) hT dL_sign_31 rfl ?_
    refine J_icmp_ne (tgt := 40) hT dL_sign_32 (by decide) (fun _ => ?_) (fun q => absurd q ((by decide)))
    refine J_iload_n (i := 1) hT dL_sign_40 rfl rfl ?_
    refine J_iconst (v := 3) hT dL_sign_41 rfl ?_
    refine J_icmp_ne (tgt := 50) hT dL_sign_42 (by decide) (fun q => absurd ((by decide)) q) (fun _ => ?_)
    refine J_bipush (v := 109) hT dL_sign_45 rfl ?_
    refine J_goto (tgt := 132) hT dL_sign_47 (by decide) ?_
    refine S_istore2 hT dL_sign_132 rfl rfl ?_
    refine J_iload_n (i := 2) hT dL_sign_133 rfl rfl ?_
    refine J_if_le (tgt := 141) hT dL_sign_134 (by decide) (fun q => absurd q ((by decide))) (fun _ => ?_)
    refine J_iload_n (i := 2) hT dL_sign_137 rfl rfl ?_
    refine J_goto (tgt := 187) hT dL_sign_138 (by decide) ?_
    exact J_iret hT dL_sign_187 rfl rfl (⟨_, rfl, by decide, rfl⟩) (Nat.le_refl _) (Nat.le_refl _)
  · refine J_iload_n (i := 0) hT dL_sign_0 rfl rfl ?_
    refine J_bipush (v := 18) hT dL_sign_1 rfl ?_
    refine J_irem (d := 18) hT dL_sign_3 rfl rfl hx (by decide) (by decide) ?_
    refine J_topil ((by rw [hk] : _ = nI 4)) ?_
    refine S_istore1 hT dL_sign_4 rfl rfl ?_
    refine J_iload_n (i := 1) hT dL_sign_5 rfl rfl ?_
    refine J_bipush (v := 6) hT dL_sign_6 rfl ?_
    refine J_icmp_ge (tgt := 65) hT dL_sign_8 (by decide) (fun q => absurd q ((by decide))) (fun _ => ?_)
    refine J_iload_n (i := 1) hT dL_sign_11 rfl rfl ?_
    refine J_if_ne (tgt := 20) hT dL_sign_12 (by decide) (fun _ => ?_) (fun q => absurd q ((by decide)))
    refine J_iload_n (i := 1) hT dL_sign_20 rfl rfl ?_
    refine J_iconst (v := 1) hT dL_sign_21 rfl ?_
    refine J_icmp_ne (tgt := 30) hT dL_sign_22 (by decide) (fun _ => ?_) (fun q => absurd q ((by decide)))
    refine J_iload_n (i := 1) hT dL_sign_30 rfl rfl ?_
    refine J_iconst (v := 2) hT dL_sign_31 rfl ?_
    refine J_icmp_ne (tgt := 40) hT dL_sign_32 (by decide) (fun _ => ?_) (fun q => absurd q ((by decide)))
    refine J_iload_n (i := 1) hT dL_sign_40 rfl rfl ?_
    refine J_iconst (v := 3) hT dL_sign_41 rfl ?_
    refine J_icmp_ne (tgt := 50) hT dL_sign_42 (by decide) (fun _ => ?_) (fun q => absurd q ((by decide)))
    refine J_iload_n (i := 1) hT dL_sign_50 rfl rfl ?_
    refine J_iconst (v := 4) hT dL_sign_51 rfl ?_
    refine J_icmp_ne (tgt := 60) hT dL_sign_52 (by decide) (fun q => absurd ((by decide)) q) (fun _ => ?_)
    refine J_bipush (v := 110) hT dL_sign_55 rfl ?_
    refine J_goto (tgt := 132) hT dL_sign_57 (by decide) ?_
    refine S_istore2 hT dL_sign_132 rfl rfl ?_
    refine J_iload_n (i := 2) hT dL_sign_133 rfl rfl ?_
    refine J_if_le (tgt := 141) hT dL_sign_134 (by decide) (fun q => absurd q ((by decide))) (fun _ => ?_)
    refine J_iload_n (i := 2) hT dL_sign_137 rfl rfl ?_
    refine J_goto (tgt := 187) hT dL_sign_138 (by decide) ?_
    exact J_iret hT dL_sign_187 rfl rfl (⟨_, rfl, by decide, rfl⟩) (Nat.le_refl _) (Nat.le_refl _)
  · refine J_iload_n (i := 0) hT dL_sign_0 rfl rfl ?_
    refine J_bipush (v := 18) hT dL_sign_1 rfl ?_
    refine J_irem (d := 18) hT dL_sign_3 rfl rfl hx (by decide) (by decide) ?_
    refine J_topil ((by rw [hk] : _ = nI 5)) ?_
    refine S_istore1 hT dL_sign_4 rfl rfl ?_
    refine J_iload_n (i := 1) hT dL_sign_5 rfl rfl ?_
    refine J_bipush (v := 6) hT dL_sign_6 rfl ?_
    refine J_icmp_ge (tgt := 65) hT dL_sign_8 (by decide) (fun q => absurd q ((by decide))) (fun _ => ?_)
    refine J_iload_n (i := 1) hT dL_sign_11 rfl rfl ?_
    refine J_if_ne (tgt := 20) hT dL_sign_12 (by decide) (fun _ => ?_) (fun q => absurd q ((by decide)))
    refine J_iload_n (i := 1) hT dL_sign_20 rfl rfl ?_
    refine J_iconst (v := 1) hT dL_sign_21 rfl ?_
    refine J_icmp_ne (tgt := 30) hT dL_sign_22 (by decide) (fun _ => ?_) (fun q => absurd q ((by decide)))
    refine J_iload_n (i := 1) hT dL_sign_30 rfl rfl ?_
    refine J_iconst (v := 2) hT dL_sign_31 rfl ?_
    refine J_icmp_ne (tgt := 40) hT dL_sign_32 (by decide) (fun _ => ?_) (fun q => absurd q ((by decide)))
    refine J_iload_n (i := 1) hT dL_sign_40 rfl rfl ?_
    refine J_iconst (v := 3) hT dL_sign_41 rfl ?_
    refine J_icmp_ne (tgt := 50) hT dL_sign_42 (by decide) (fun _ => ?_) (fun q => absurd q ((by decide)))
    refine J_iload_n (i := 1) hT dL_sign_50 rfl rfl ?_
    refine J_iconst (v := 4) hT dL_sign_51 rfl ?_
    refine J_icmp_ne (tgt := 60) hT dL_sign_52 (by decide) (fun _ => ?_) (fun q => absurd q ((by decide)))
    refine J_bipush (v := 105) hT dL_sign_60 rfl ?_
    refine J_goto (tgt := 132) hT dL_sign_62 (by decide) ?_
    refine S_istore2 hT dL_sign_132 rfl rfl ?_
    refine J_iload_n (i := 2) hT dL_sign_133 rfl rfl ?_
    refine J_if_le (tgt := 141) hT dL_sign_134 (by decide) (fun q => absurd q ((by decide))) (fun _ => ?_)
    refine J_iload_n (i := 2) hT dL_sign_137 rfl rfl ?_
    refine J_goto (tgt := 187) hT dL_sign_138 (by decide) ?_
    exact J_iret hT dL_sign_187 rfl rfl (⟨_, rfl, by decide, rfl⟩) (Nat.le_refl _) (Nat.le_refl _)
  · refine J_iload_n (i := 0) hT dL_sign_0 rfl rfl ?_
    refine J_bipush (v := 18) hT dL_sign_1 rfl ?_
    refine J_irem (d := 18) hT dL_sign_3 rfl rfl hx (by decide) (by decide) ?_
    refine J_topil ((by rw [hk] : _ = nI 6)) ?_
    refine S_istore1 hT dL_sign_4 rfl rfl ?_
    refine J_iload_n (i := 1) hT dL_sign_5 rfl rfl ?_
    refine J_bipush (v := 6) hT dL_sign_6 rfl ?_
    refine J_icmp_ge (tgt := 65) hT dL_sign_8 (by decide) (fun _ => ?_) (fun q => absurd ((by decide)) q)
    refine J_iload_n (i := 1) hT dL_sign_65 rfl rfl ?_
    refine J_bipush (v := 12) hT dL_sign_66 rfl ?_
    refine J_icmp_ge (tgt := 131) hT dL_sign_68 (by decide) (fun q => absurd q ((by decide))) (fun _ => ?_)
    refine J_iload_n (i := 1) hT dL_sign_71 rfl rfl ?_
    refine J_bipush (v := 6) hT dL_sign_72 rfl ?_
    refine J_icmp_ne (tgt := 82) hT dL_sign_74 (by decide) (fun q => absurd ((by decide)) q) (fun _ => ?_)
    refine J_bipush (v := 43) hT dL_sign_77 rfl ?_
    refine J_goto (tgt := 132) hT dL_sign_79 (by decide) ?_
    refine S_istore2 hT dL_sign_132 rfl rfl ?_
    refine J_iload_n (i := 2) hT dL_sign_133 rfl rfl ?_
    refine J_if_le (tgt := 141) hT dL_sign_134 (by decide) (fun q => absurd q ((by decide))) (fun _ => ?_)
    refine J_iload_n (i := 2) hT dL_sign_137 rfl rfl ?_
    refine J_goto (tgt := 187) hT dL_sign_138 (by decide) ?_
    exact J_iret hT dL_sign_187 rfl rfl (⟨_, rfl, by decide, rfl⟩) (Nat.le_refl _) (Nat.le_refl _)
  · refine J_iload_n (i := 0) hT dL_sign_0 rfl rfl ?_
    refine J_bipush (v := 18) hT dL_sign_1 rfl ?_
    refine J_irem (d := 18) hT dL_sign_3 rfl rfl hx (by decide) (by decide) ?_
    refine J_topil ((by rw [hk] : _ = nI 7)) ?_
    refine S_istore1 hT dL_sign_4 rfl rfl ?_
    refine J_iload_n (i := 1) hT dL_sign_5 rfl rfl ?_
    refine J_bipush (v := 6) hT dL_sign_6 rfl ?_
    refine J_icmp_ge (tgt := 65) hT dL_sign_8 (by decide) (fun _ => ?_) (fun q => absurd ((by decide)) q)
    refine J_iload_n (i := 1) hT dL_sign_65 rfl rfl ?_
    refine J_bipush (v := 12) hT dL_sign_66 rfl ?_
    refine J_icmp_ge (tgt := 131) hT dL_sign_68 (by decide) (fun q => absurd q ((by decide))) (fun _ => ?_)
    refine J_iload_n (i := 1) hT dL_sign_71 rfl rfl ?_
    refine J_bipush (v := 6) hT dL_sign_72 rfl ?_
    refine J_icmp_ne (tgt := 82) hT dL_sign_74 (by decide) (fun _ => ?_) (fun q => absurd q ((by decide)))
    refine J_iload_n (i := 1) hT dL_sign_82 rfl rfl ?_
    refine J_bipush (v := 7) hT dL_sign_83 rfl ?_
    refine J_icmp_ne (tgt := 93) hT dL_sign_85 (by decide) (fun q => absurd ((by decide)) q) (fun _ => ?_)
    refine J_bipush (v := 45) hT dL_sign_88 rfl ?_
    refine J_goto (tgt := 132) hT dL_sign_90 (by decide) ?_
    refine S_istore2 hT dL_sign_132 rfl rfl ?_
    refine J_iload_n (i := 2) hT dL_sign_133 rfl rfl ?_
    refine J_if_le (tgt := 141) hT dL_sign_134 (by decide) (fun q => absurd q ((by decide))) (fun _ => ?_)
    refine J_iload_n (i := 2) hT dL_sign_137 rfl rfl ?_
    refine J_goto (tgt := 187) hT dL_sign_138 (by decide) ?_
    exact J_iret hT dL_sign_187 rfl rfl (⟨_, rfl, by decide, rfl⟩) (Nat.le_refl _) (Nat.le_refl _)
  · refine J_iload_n (i := 0) hT dL_sign_0 rfl rfl ?_
    refine J_bipush (v := 18) hT dL_sign_1 rfl ?_
    refine J_irem (d := 18) hT dL_sign_3 rfl rfl hx (by decide) (by decide) ?_
    refine J_topil ((by rw [hk] : _ = nI 8)) ?_
    refine S_istore1 hT dL_sign_4 rfl rfl ?_
    refine J_iload_n (i := 1) hT dL_sign_5 rfl rfl ?_
    refine J_bipush (v := 6) hT dL_sign_6 rfl ?_
    refine J_icmp_ge (tgt := 65) hT dL_sign_8 (by decide) (fun _ => ?_) (fun q => absurd ((by decide)) q)
    refine J_iload_n (i := 1) hT dL_sign_65 rfl rfl ?_
    refine J_bipush (v := 12) hT dL_sign_66 rfl ?_
    refine J_icmp_ge (tgt := 131) hT dL_sign_68 (by decide) (fun q => absurd q ((by decide))) (fun _ => ?_)
    refine J_iload_n (i := 1) hT dL_sign_71 rfl rfl ?_
    refine J_bipush (v := 6) hT dL_sign_72 rfl ?_
    refine J_icmp_ne (tgt := 82) hT dL_sign_74 (by decide) (fun _ => ?_) (fun q => absurd q ((by decide)))
    refine J_iload_n (i := 1) hT dL_sign_82 rfl rfl ?_
    refine J_bipush (v := 7) hT dL_sign_83 rfl ?_
    refine J_icmp_ne (tgt := 93) hT dL_sign_85 (by decide) (fun _ => ?_) (fun q => absurd q ((by decide)))
    refine J_iload_n (i := 1) hT dL_sign_93 rfl rfl ?_
    refine J_bipush (v := 8) hT dL_sign_94 rfl ?_
    refine J_icmp_ne (tgt := 104) hT dL_sign_96 (by decide) (fun q => absurd ((by decide)) q) (fun _ => ?_)
    refine J_bipush (v := 42) hT dL_sign_99 rfl ?_
    refine J_goto (tgt := 132) hT dL_sign_101 (by decide) ?_
    refine S_istore2 hT dL_sign_132 rfl rfl ?_
    refine J_iload_n (i := 2) hT dL_sign_133 rfl rfl ?_
    refine J_if_le (tgt := 141) hT dL_sign_134 (by decide) (fun q => absurd q ((by decide))) (fun _ => ?_)
    refine J_iload_n (i := 2) hT dL_sign_137 rfl rfl ?_
    refine J_goto (tgt := 187) hT dL_sign_138 (by decide) ?_
    exact J_iret hT dL_sign_187 rfl rfl (⟨_, rfl, by decide, rfl⟩) (Nat.le_refl _) (Nat.le_refl _)
  · refine J_iload_n (i := 0) hT dL_sign_0 rfl rfl ?_
    refine J_bipush (v := 18) hT dL_sign_1 rfl ?_
    refine J_irem (d := 18) hT dL_sign_3 rfl rfl hx (by decide) (by decide) ?_
    refine J_topil ((by rw [hk] : _ = nI 9)) ?_
    refine S_istore1 hT dL_sign_4 rfl rfl ?_
    refine J_iload_n (i := 1) hT dL_sign_5 rfl rfl ?_
    refine J_bipush (v := 6) hT dL_sign_6 rfl ?_
    refine J_icmp_ge (tgt := 65) hT dL_sign_8 (by decide) (fun _ => ?_) (fun q => absurd ((by decide)) q)
    refine J_iload_n (i := 1) hT dL_sign_65 rfl rfl ?_
    refine J_bipush (v := 12) hT dL_sign_66 rfl ?_
    refine J_icmp_ge (tgt := 131) hT dL_sign_68 (by decide) (fun q => absurd q ((by decide))) (fun _ => ?_)
    refine J_iload_n (i := 1) hT dL_sign_71 rfl rfl ?_
    refine J_bipush (v := 6) hT dL_sign_72 rfl ?_
    refine J_icmp_ne (tgt := 82) hT dL_sign_74 (by decide) (fun _ => ?_) (fun q => absurd q ((by decide)))
    refine J_iload_n (i := 1) hT dL_sign_82 rfl rfl ?_
    refine J_bipush (v := 7) hT dL_sign_83 rfl ?_
    refine J_icmp_ne (tgt := 93) hT dL_sign_85 (by decide) (fun _ => ?_) (fun q => absurd q ((by decide)))
    refine J_iload_n (i := 1) hT dL_sign_93 rfl rfl ?_
    refine J_bipush (v := 8) hT dL_sign_94 rfl ?_
    refine J_icmp_ne (tgt := 104) hT dL_sign_96 (by decide) (fun _ => ?_) (fun q => absurd q ((by decide)))
    refine J_iload_n (i := 1) hT dL_sign_104 rfl rfl ?_
    refine J_bipush (v := 9) hT dL_sign_105 rfl ?_
    refine J_icmp_ne (tgt := 115) hT dL_sign_107 (by decide) (fun q => absurd ((by decide)) q) (fun _ => ?_)
    refine J_bipush (v := 60) hT dL_sign_110 rfl ?_
    refine J_goto (tgt := 132) hT dL_sign_112 (by decide) ?_
    refine S_istore2 hT dL_sign_132 rfl rfl ?_
    refine J_iload_n (i := 2) hT dL_sign_133 rfl rfl ?_
    refine J_if_le (tgt := 141) hT dL_sign_134 (by decide) (fun q => absurd q ((by decide))) (fun _ => ?_)
    refine J_iload_n (i := 2) hT dL_sign_137 rfl rfl ?_
    refine J_goto (tgt := 187) hT dL_sign_138 (by decide) ?_
    exact J_iret hT dL_sign_187 rfl rfl (⟨_, rfl, by decide, rfl⟩) (Nat.le_refl _) (Nat.le_refl _)
  · refine J_iload_n (i := 0) hT dL_sign_0 rfl rfl ?_
    refine J_bipush (v := 18) hT dL_sign_1 rfl ?_
    refine J_irem (d := 18) hT dL_sign_3 rfl rfl hx (by decide) (by decide) ?_
    refine J_topil ((by rw [hk] : _ = nI 10)) ?_
    refine S_istore1 hT dL_sign_4 rfl rfl ?_
    refine J_iload_n (i := 1) hT dL_sign_5 rfl rfl ?_
    refine J_bipush (v := 6) hT dL_sign_6 rfl ?_
    refine J_icmp_ge (tgt := 65) hT dL_sign_8 (by decide) (fun _ => ?_) (fun q => absurd ((by decide)) q)
    refine J_iload_n (i := 1) hT dL_sign_65 rfl rfl ?_
    refine J_bipush (v := 12) hT dL_sign_66 rfl ?_
    refine J_icmp_ge (tgt := 131) hT dL_sign_68 (by decide) (fun q => absurd q ((by decide))) (fun _ => ?_)
    refine J_iload_n (i := 1) hT dL_sign_71 rfl rfl ?_
    refine J_bipush (v := 6) hT dL_sign_72 rfl ?_
    refine J_icmp_ne (tgt := 82) hT dL_sign_74 (by decide) (fun _ => ?_) (fun q => absurd q ((by decide)))
    refine J_iload_n (i := 1) hT dL_sign_82 rfl rfl ?_
    refine J_bipush (v := 7) hT dL_sign_83 rfl ?_
    refine J_icmp_ne (tgt := 93) hT dL_sign_85 (by decide) (fun _ => ?_) (fun q => absurd q ((by decide)))
    refine J_iload_n (i := 1) hT dL_sign_93 rfl rfl ?_
    refine J_bipush (v := 8) hT dL_sign_94 rfl ?_
    refine J_icmp_ne (tgt := 104) hT dL_sign_96 (by decide) (fun _ => ?_) (fun q => absurd q ((by decide)))
    refine J_iload_n (i := 1) hT dL_sign_104 rfl rfl ?_
    refine J_bipush (v := 9) hT dL_sign_105 rfl ?_
    refine J_icmp_ne (tgt := 115) hT dL_sign_107 (by decide) (fun _ => ?_) (fun q => absurd q ((by decide)))
    refine J_iload_n (i := 1) hT dL_sign_115 rfl rfl ?_
    refine J_bipush (v := 10) hT dL_sign_116 rfl ?_
    refine J_icmp_ne (tgt := 126) hT dL_sign_118 (by decide) (fun q => absurd ((by decide)) q) (fun _ => ?_)
    refine J_bipush (v := 62) hT dL_sign_121 rfl ?_
    refine J_goto (tgt := 132) hT dL_sign_123 (by decide) ?_
    refine S_istore2 hT dL_sign_132 rfl rfl ?_
    refine J_iload_n (i := 2) hT dL_sign_133 rfl rfl ?_
    refine J_if_le (tgt := 141) hT dL_sign_134 (by decide) (fun q => absurd q ((by decide))) (fun _ => ?_)
    refine J_iload_n (i := 2) hT dL_sign_137 rfl rfl ?_
    refine J_goto (tgt := 187) hT dL_sign_138 (by decide) ?_
    exact J_iret hT dL_sign_187 rfl rfl (⟨_, rfl, by decide, rfl⟩) (Nat.le_refl _) (Nat.le_refl _)
  · refine J_iload_n (i := 0) hT dL_sign_0 rfl rfl ?_
    refine J_bipush (v := 18) hT dL_sign_1 rfl ?_
    refine J_irem (d := 18) hT dL_sign_3 rfl rfl hx (by decide) (by decide) ?_
    refine J_topil ((by rw [hk] : _ = nI 11)) ?_
    refine S_istore1 hT dL_sign_4 rfl rfl ?_
    refine J_iload_n (i := 1) hT dL_sign_5 rfl rfl ?_
    refine J_bipush (v := 6) hT dL_sign_6 rfl ?_
    refine J_icmp_ge (tgt := 65) hT dL_sign_8 (by decide) (fun _ => ?_) (fun q => absurd ((by decide)) q)
    refine J_iload_n (i := 1) hT dL_sign_65 rfl rfl ?_
    refine J_bipush (v := 12) hT dL_sign_66 rfl ?_
    refine J_icmp_ge (tgt := 131) hT dL_sign_68 (by decide) (fun q => absurd q ((by decide))) (fun _ => ?_)
    refine J_iload_n (i := 1) hT dL_sign_71 rfl rfl ?_
    refine J_bipush (v := 6) hT dL_sign_72 rfl ?_
    refine J_icmp_ne (tgt := 82) hT dL_sign_74 (by decide) (fun _ => ?_) (fun q => absurd q ((by decide)))
    refine J_iload_n (i := 1) hT dL_sign_82 rfl rfl ?_
    refine J_bipush (v := 7) hT dL_sign_83 rfl ?_
    refine J_icmp_ne (tgt := 93) hT dL_sign_85 (by decide) (fun _ => ?_) (fun q => absurd q ((by decide)))
    refine J_iload_n (i := 1) hT dL_sign_93 rfl rfl ?_
    refine J_bipush (v := 8) hT dL_sign_94 rfl ?_
    refine J_icmp_ne (tgt := 104) hT dL_sign_96 (by decide) (fun _ => ?_) (fun q => absurd q ((by decide)))
    refine J_iload_n (i := 1) hT dL_sign_104 rfl rfl ?_
    refine J_bipush (v := 9) hT dL_sign_105 rfl ?_
    refine J_icmp_ne (tgt := 115) hT dL_sign_107 (by decide) (fun _ => ?_) (fun q => absurd q ((by decide)))
    refine J_iload_n (i := 1) hT dL_sign_115 rfl rfl ?_
    refine J_bipush (v := 10) hT dL_sign_116 rfl ?_
    refine J_icmp_ne (tgt := 126) hT dL_sign_118 (by decide) (fun _ => ?_) (fun q => absurd q ((by decide)))
    refine J_bipush (v := 61) hT dL_sign_126 rfl ?_
    refine J_goto (tgt := 132) hT dL_sign_128 (by decide) ?_
    refine S_istore2 hT dL_sign_132 rfl rfl ?_
    refine J_iload_n (i := 2) hT dL_sign_133 rfl rfl ?_
    refine J_if_le (tgt := 141) hT dL_sign_134 (by decide) (fun q => absurd q ((by decide))) (fun _ => ?_)
    refine J_iload_n (i := 2) hT dL_sign_137 rfl rfl ?_
    refine J_goto (tgt := 187) hT dL_sign_138 (by decide) ?_
    exact J_iret hT dL_sign_187 rfl rfl (⟨_, rfl, by decide, rfl⟩) (Nat.le_refl _) (Nat.le_refl _)
  · refine J_iload_n (i := 0) hT dL_sign_0 rfl rfl ?_
    refine J_bipush (v := 18) hT dL_sign_1 rfl ?_
    refine J_irem (d := 18) hT dL_sign_3 rfl rfl hx (by decide) (by decide) ?_
    refine J_topil ((by rw [hk] : _ = nI 12)) ?_
    refine S_istore1 hT dL_sign_4 rfl rfl ?_
    refine J_iload_n (i := 1) hT dL_sign_5 rfl rfl ?_
    refine J_bipush (v := 6) hT dL_sign_6 rfl ?_
    refine J_icmp_ge (tgt := 65) hT dL_sign_8 (by decide) (fun _ => ?_) (fun q => absurd ((by decide)) q)
    refine J_iload_n (i := 1) hT dL_sign_65 rfl rfl ?_
    refine J_bipush (v := 12) hT dL_sign_66 rfl ?_
    refine J_icmp_ge (tgt := 131) hT dL_sign_68 (by decide) (fun _ => ?_) (fun q => absurd ((by decide)) q)
    refine J_iconst (v := 0) hT dL_sign_131 rfl ?_
    refine S_istore2 hT dL_sign_132 rfl rfl ?_
    refine J_iload_n (i := 2) hT dL_sign_133 rfl rfl ?_
    refine J_if_le (tgt := 141) hT dL_sign_134 (by decide) (fun _ => ?_) (fun q => absurd ((by decide)) q)
    refine J_iload_n (i := 1) hT dL_sign_141 rfl rfl ?_
    refine J_bipush (v := 12) hT dL_sign_142 rfl ?_
    refine J_icmp_ne (tgt := 152) hT dL_sign_144 (by decide) (fun q => absurd ((by decide)) q) (fun _ => ?_)
    refine J_bipush (v := 40) hT dL_sign_147 rfl ?_
    refine J_goto (tgt := 187) hT dL_sign_149 (by decide) ?_
    exact J_iret hT dL_sign_187 rfl rfl (⟨_, rfl, by decide, rfl⟩) (Nat.le_refl _) (Nat.le_refl _)
  · refine J_iload_n (i := 0) hT dL_sign_0 rfl rfl ?_
    refine J_bipush (v := 18) hT dL_sign_1 rfl ?_
    refine J_irem (d := 18) hT dL_sign_3 rfl rfl hx (by decide) (by decide) ?_
    refine J_topil ((by rw [hk] : _ = nI 13)) ?_
    refine S_istore1 hT dL_sign_4 rfl rfl ?_
    refine J_iload_n (i := 1) hT dL_sign_5 rfl rfl ?_
    refine J_bipush (v := 6) hT dL_sign_6 rfl ?_
    refine J_icmp_ge (tgt := 65) hT dL_sign_8 (by decide) (fun _ => ?_) (fun q => absurd ((by decide)) q)
    refine J_iload_n (i := 1) hT dL_sign_65 rfl rfl ?_
    refine J_bipush (v := 12) hT dL_sign_66 rfl ?_
    refine J_icmp_ge (tgt := 131) hT dL_sign_68 (by decide) (fun _ => ?_) (fun q => absurd ((by decide)) q)
    refine J_iconst (v := 0) hT dL_sign_131 rfl ?_
    refine S_istore2 hT dL_sign_132 rfl rfl ?_
    refine J_iload_n (i := 2) hT dL_sign_133 rfl rfl ?_
    refine J_if_le (tgt := 141) hT dL_sign_134 (by decide) (fun _ => ?_) (fun q => absurd ((by decide)) q)
    refine J_iload_n (i := 1) hT dL_sign_141 rfl rfl ?_
    refine J_bipush (v := 12) hT dL_sign_142 rfl ?_
    refine J_icmp_ne (tgt := 152) hT dL_sign_144 (by decide) (fun _ => ?_) (fun q => absurd q ((by decide)))
    refine J_iload_n (i := 1) hT dL_sign_152 rfl rfl ?_
    refine J_bipush (v := 13) hT dL_sign_153 rfl ?_
    refine J_icmp_ne (tgt := 163) hT dL_sign_155 (by decide) (fun q => absurd ((by decide)) q) (fun _ => ?_)
    refine J_bipush (v := 41) hT dL_sign_158 rfl ?_
    refine J_goto (tgt := 187) hT dL_sign_160 (by decide) ?_
    exact J_iret hT dL_sign_187 rfl rfl (⟨_, rfl, by decide, rfl⟩) (Nat.le_refl _) (Nat.le_refl _)
  · refine J_iload_n (i := 0) hT dL_sign_0 rfl rfl ?_
    refine J_bipush (v := 18) hT dL_sign_1 rfl ?_
    refine J_irem (d := 18) hT dL_sign_3 rfl rfl hx (by decide) (by decide) ?_
    refine J_topil ((by rw [hk] : _ = nI 14)) ?_
    refine S_istore1 hT dL_sign_4 rfl rfl ?_
    refine J_iload_n (i := 1) hT dL_sign_5 rfl rfl ?_
    refine J_bipush (v := 6) hT dL_sign_6 rfl ?_
    refine J_icmp_ge (tgt := 65) hT dL_sign_8 (by decide) (fun _ => ?_) (fun q => absurd ((by decide)) q)
    refine J_iload_n (i := 1) hT dL_sign_65 rfl rfl ?_
    refine J_bipush (v := 12) hT dL_sign_66 rfl ?_
    refine J_icmp_ge (tgt := 131) hT dL_sign_68 (by decide) (fun _ => ?_) (fun q => absurd ((by decide)) q)
    refine J_iconst (v := 0) hT dL_sign_131 rfl ?_
    refine S_istore2 hT dL_sign_132 rfl rfl ?_
    refine J_iload_n (i := 2) hT dL_sign_133 rfl rfl ?_
    refine J_if_le (tgt := 141) hT dL_sign_134 (by decide) (fun _ => ?_) (fun q => absurd ((by decide)) q)
    refine J_iload_n (i := 1) hT dL_sign_141 rfl rfl ?_
    refine J_bipush (v := 12) hT dL_sign_142 rfl ?_
    refine J_icmp_ne (tgt := 152) hT dL_sign_144 (by decide) (fun _ => ?_) (fun q => absurd q ((by decide)))
    refine J_iload_n (i := 1) hT dL_sign_152 rfl rfl ?_
    refine J_bipush (v := 13) hT dL_sign_153 rfl ?_
    refine J_icmp_ne (tgt := 163) hT dL_sign_155 (by decide) (fun _ => ?_) (fun q => absurd q ((by decide)))
    refine J_iload_n (i := 1) hT dL_sign_163 rfl rfl ?_
    refine J_bipush (v := 14) hT dL_sign_164 rfl ?_
    refine J_icmp_ne (tgt := 174) hT dL_sign_166 (by decide) (fun q => absurd ((by decide)) q) (fun _ => ?_)
    refine J_bipush (v := 44) hT dL_sign_169 rfl ?_
    refine J_goto (tgt := 187) hT dL_sign_171 (by decide) ?_
    exact J_iret hT dL_sign_187 rfl rfl (⟨_, rfl, by decide, rfl⟩) (Nat.le_refl _) (Nat.le_refl _)
  · refine J_iload_n (i := 0) hT dL_sign_0 rfl rfl ?_
    refine J_bipush (v := 18) hT dL_sign_1 rfl ?_
    refine J_irem (d := 18) hT dL_sign_3 rfl rfl hx (by decide) (by decide) ?_
    refine J_topil ((by rw [hk] : _ = nI 15)) ?_
    refine S_istore1 hT dL_sign_4 rfl rfl ?_
    refine J_iload_n (i := 1) hT dL_sign_5 rfl rfl ?_
    refine J_bipush (v := 6) hT dL_sign_6 rfl ?_
    refine J_icmp_ge (tgt := 65) hT dL_sign_8 (by decide) (fun _ => ?_) (fun q => absurd ((by decide)) q)
    refine J_iload_n (i := 1) hT dL_sign_65 rfl rfl ?_
    refine J_bipush (v := 12) hT dL_sign_66 rfl ?_
    refine J_icmp_ge (tgt := 131) hT dL_sign_68 (by decide) (fun _ => ?_) (fun q => absurd ((by decide)) q)
    refine J_iconst (v := 0) hT dL_sign_131 rfl ?_
    refine S_istore2 hT dL_sign_132 rfl rfl ?_
    refine J_iload_n (i := 2) hT dL_sign_133 rfl rfl ?_
    refine J_if_le (tgt := 141) hT dL_sign_134 (by decide) (fun _ => ?_) (fun q => absurd ((by decide)) q)
    refine J_iload_n (i := 1) hT dL_sign_141 rfl rfl ?_
    refine J_bipush (v := 12) hT dL_sign_142 rfl ?_
    refine J_icmp_ne (tgt := 152) hT dL_sign_144 (by decide) (fun _ => ?_) (fun q => absurd q ((by decide)))
    refine J_iload_n (i := 1) hT dL_sign_152 rfl rfl ?_
    refine J_bipush (v := 13) hT dL_sign_153 rfl ?_
    refine J_icmp_ne (tgt := 163) hT dL_sign_155 (by decide) (fun _ => ?_) (fun q => absurd q ((by decide)))
    refine J_iload_n (i := 1) hT dL_sign_163 rfl rfl ?_
    refine J_bipush (v := 14) hT dL_sign_164 rfl ?_
    refine J_icmp_ne (tgt := 174) hT dL_sign_166 (by decide) (fun _ => ?_) (fun q => absurd q ((by decide)))
    refine J_bipush (v := 48) hT dL_sign_174 rfl ?_
    refine J_iload_n (i := 0) hT dL_sign_176 rfl rfl ?_
    refine J_bipush (v := 18) hT dL_sign_177 rfl ?_
    refine J_idiv (d := 18) hT dL_sign_179 rfl rfl hx (by decide) (by decide) ?_
    refine J_bipush (v := 12) hT dL_sign_180 rfl ?_
    refine J_irem (d := 12) hT dL_sign_182 rfl rfl (Nat.lt_of_le_of_lt (Nat.div_le_self _ _) hx) (by decide) (by decide) ?_
    refine J_bipush (v := 10) hT dL_sign_183 rfl ?_
    refine J_irem (d := 10) hT dL_sign_185 rfl rfl (Nat.lt_of_lt_of_le (Nat.mod_lt _ (by decide)) (by decide)) (by decide) (by decide) ?_
    refine J_iadd hT dL_sign_186 ?_
    refine J_topil (nI_add 48 _) ?_
    exact J_iret hT dL_sign_187 rfl rfl (⟨_, rfl, letB_dig _ (Nat.mod_lt _ (by decide)), rfl⟩) (Nat.le_refl _) (Nat.le_refl _)
  · refine J_iload_n (i := 0) hT dL_sign_0 rfl rfl ?_
    refine J_bipush (v := 18) hT dL_sign_1 rfl ?_
    refine J_irem (d := 18) hT dL_sign_3 rfl rfl hx (by decide) (by decide) ?_
    refine J_topil ((by rw [hk] : _ = nI 16)) ?_
    refine S_istore1 hT dL_sign_4 rfl rfl ?_
    refine J_iload_n (i := 1) hT dL_sign_5 rfl rfl ?_
    refine J_bipush (v := 6) hT dL_sign_6 rfl ?_
    refine J_icmp_ge (tgt := 65) hT dL_sign_8 (by decide) (fun _ => ?_) (fun q => absurd ((by decide)) q)
    refine J_iload_n (i := 1) hT dL_sign_65 rfl rfl ?_
    refine J_bipush (v := 12) hT dL_sign_66 rfl ?_
    refine J_icmp_ge (tgt := 131) hT dL_sign_68 (by decide) (fun _ => ?_) (fun q => absurd ((by decide)) q)
    refine J_iconst (v := 0) hT dL_sign_131 rfl ?_
    refine S_istore2 hT dL_sign_132 rfl rfl ?_
    refine J_iload_n (i := 2) hT dL_sign_133 rfl rfl ?_
    refine J_if_le (tgt := 141) hT dL_sign_134 (by decide) (fun _ => ?_) (fun q => absurd ((by decide)) q)
    refine J_iload_n (i := 1) hT dL_sign_141 rfl rfl ?_
    refine J_bipush (v := 12) hT dL_sign_142 rfl ?_
    refine J_icmp_ne (tgt := 152) hT dL_sign_144 (by decide) (fun _ => ?_) (fun q => absurd q ((by decide)))
    refine J_iload_n (i := 1) hT dL_sign_152 rfl rfl ?_
    refine J_bipush (v := 13) hT dL_sign_153 rfl ?_
    refine J_icmp_ne (tgt := 163) hT dL_sign_155 (by decide) (fun _ => ?_) (fun q => absurd q ((by decide)))
    refine J_iload_n (i := 1) hT dL_sign_163 rfl rfl ?_
    refine J_bipush (v := 14) hT dL_sign_164 rfl ?_
    refine J_icmp_ne (tgt := 174) hT dL_sign_166 (by decide) (fun _ => ?_) (fun q => absurd q ((by decide)))
    refine J_bipush (v := 48) hT dL_sign_174 rfl ?_
    refine J_iload_n (i := 0) hT dL_sign_176 rfl rfl ?_
    refine J_bipush (v := 18) hT dL_sign_177 rfl ?_
    refine J_idiv (d := 18) hT dL_sign_179 rfl rfl hx (by decide) (by decide) ?_
    refine J_bipush (v := 12) hT dL_sign_180 rfl ?_
    refine J_irem (d := 12) hT dL_sign_182 rfl rfl (Nat.lt_of_le_of_lt (Nat.div_le_self _ _) hx) (by decide) (by decide) ?_
    refine J_bipush (v := 10) hT dL_sign_183 rfl ?_
    refine J_irem (d := 10) hT dL_sign_185 rfl rfl (Nat.lt_of_lt_of_le (Nat.mod_lt _ (by decide)) (by decide)) (by decide) (by decide) ?_
    refine J_iadd hT dL_sign_186 ?_
    refine J_topil (nI_add 48 _) ?_
    exact J_iret hT dL_sign_187 rfl rfl (⟨_, rfl, letB_dig _ (Nat.mod_lt _ (by decide)), rfl⟩) (Nat.le_refl _) (Nat.le_refl _)
  · refine J_iload_n (i := 0) hT dL_sign_0 rfl rfl ?_
    refine J_bipush (v := 18) hT dL_sign_1 rfl ?_
    refine J_irem (d := 18) hT dL_sign_3 rfl rfl hx (by decide) (by decide) ?_
    refine J_topil ((by rw [hk] : _ = nI 17)) ?_
    refine S_istore1 hT dL_sign_4 rfl rfl ?_
    refine J_iload_n (i := 1) hT dL_sign_5 rfl rfl ?_
    refine J_bipush (v := 6) hT dL_sign_6 rfl ?_
    refine J_icmp_ge (tgt := 65) hT dL_sign_8 (by decide) (fun _ => ?_) (fun q => absurd ((by decide)) q)
    refine J_iload_n (i := 1) hT dL_sign_65 rfl rfl ?_
    refine J_bipush (v := 12) hT dL_sign_66 rfl ?_
    refine J_icmp_ge (tgt := 131) hT dL_sign_68 (by decide) (fun _ => ?_) (fun q => absurd ((by decide)) q)
    refine J_iconst (v := 0) hT dL_sign_131 rfl ?_
    refine S_istore2 hT dL_sign_132 rfl rfl ?_
    refine J_iload_n (i := 2) hT dL_sign_133 rfl rfl ?_
    refine J_if_le (tgt := 141) hT dL_sign_134 (by decide) (fun _ => ?_) (fun q => absurd ((by decide)) q)
    refine J_iload_n (i := 1) hT dL_sign_141 rfl rfl ?_
    refine J_bipush (v := 12) hT dL_sign_142 rfl ?_
    refine J_icmp_ne (tgt := 152) hT dL_sign_144 (by decide) (fun _ => ?_) (fun q => absurd q ((by decide)))
    refine J_iload_n (i := 1) hT dL_sign_152 rfl rfl ?_
    refine J_bipush (v := 13) hT dL_sign_153 rfl ?_
    refine J_icmp_ne (tgt := 163) hT dL_sign_155 (by decide) (fun _ => ?_) (fun q => absurd q ((by decide)))
    refine J_iload_n (i := 1) hT dL_sign_163 rfl rfl ?_
    refine J_bipush (v := 14) hT dL_sign_164 rfl ?_
    refine J_icmp_ne (tgt := 174) hT dL_sign_166 (by decide) (fun _ => ?_) (fun q => absurd q ((by decide)))
    refine J_bipush (v := 48) hT dL_sign_174 rfl ?_
    refine J_iload_n (i := 0) hT dL_sign_176 rfl rfl ?_
    refine J_bipush (v := 18) hT dL_sign_177 rfl ?_
    refine J_idiv (d := 18) hT dL_sign_179 rfl rfl hx (by decide) (by decide) ?_
    refine J_bipush (v := 12) hT dL_sign_180 rfl ?_
    refine J_irem (d := 12) hT dL_sign_182 rfl rfl (Nat.lt_of_le_of_lt (Nat.div_le_self _ _) hx) (by decide) (by decide) ?_
    refine J_bipush (v := 10) hT dL_sign_183 rfl ?_
    refine J_irem (d := 10) hT dL_sign_185 rfl rfl (Nat.lt_of_lt_of_le (Nat.mod_lt _ (by decide)) (by decide)) (by decide) (by decide) ?_
    refine J_iadd hT dL_sign_186 ?_
    refine J_topil (nI_add 48 _) ?_
    exact J_iret hT dL_sign_187 rfl rfl (⟨_, rfl, letB_dig _ (Nat.mod_lt _ (by decide)), rfl⟩) (Nat.le_refl _) (Nat.le_refl _)

def sgL (s : Nat) : Int32 := if s = 0 then 45 else if s = 1 then 43 else 60
def dTl (k o t s : Nat) : List Int32 := if k = 0 then [nI (48 + o), sgL s, nI (48 + t)] else if k = 1 then [99, nI (48 + o), sgL s, nI (48 + t)] else if k = 2 then [114, nI (48 + o)] else if k = 3 then [108, nI (48 + o), sgL s, nI (48 + t)] else [109, 40, 99, nI (48 + o), 44, 108, nI (48 + t), 41]
/-- the text that a number says -/
def dTx (Y : Nat) : List Int32 := dTl (Y % 5) (Y / 5 % 5) (Y / 25 % 5) (Y / 125 % 3)
set_option maxRecDepth 100000 in
set_option maxHeartbeats 4000000 in
theorem c_L_says {l : Launch} {Z : zZ} (hZ : zSt l Z) (hSs : zSs Z) {μ : zMem} {σ : zS2} {π : zP2} {g : zG2} {n L Y : Nat} {S : zS2} (h : PW n L μ σ π S) (hx : Y < 2147483648) : zCt l Z mL_says 9 0 0 [.ref 0, .int (nI Y)] (zA4 μ σ π g) (fun v μ' => v = some (.int 1) ∧ ∃ σ' S', μ' = zA4 μ σ' π g ∧ PW n (dTx Y).length μ σ' π S' ∧ TXF S S' (fun j => (dTx Y).getD j 0) (dTx Y).length ∧ zPf2 σ σ') := by
  refine zCt_of hZ mpL_says (Nat.le_of_ble_eq_true rfl) (L := [some (.ref 0), some (.int (nI Y)), none, none, none, none]) rfl (fun τ hY => ?_)
  have hT := hY.1
  have h5 : Y % 5 = 0 ∨ Y % 5 = 1 ∨ Y % 5 = 2 ∨ Y % 5 = 3 ∨ Y % 5 = 4 := by omega
  have h3 : Y / 125 % 3 = 0 ∨ Y / 125 % 3 = 1 ∨ Y / 125 % 3 = 2 := by omega
  rcases h5 with hk | hk | hk | hk | hk
  · rcases h3 with ht | ht | ht
    · have hd : dTx Y = [nI (48 + Y / 5 % 5), 45, nI (48 + Y / 25 % 5)] := by simp [dTx, dTl, sgL, hk, ht]
      rw [hd]
      refine J_iload_n (i := 1) hT dL_says_0 rfl rfl ?_
      refine J_iconst (v := 5) hT dL_says_1 rfl ?_
      refine J_irem (d := 5) hT dL_says_2 rfl rfl hx (by decide) (by decide) ?_
      refine J_topil ((by rw [hk] : _ = nI 0)) ?_
      refine S_istore2 hT dL_says_3 rfl rfl ?_
      refine J_bipush (v := 48) hT dL_says_4 rfl ?_
      refine J_iload_n (i := 1) hT dL_says_6 rfl rfl ?_
      refine J_iconst (v := 5) hT dL_says_7 rfl ?_
      refine J_idiv (d := 5) hT dL_says_8 rfl rfl hx (by decide) (by decide) ?_
      refine J_iconst (v := 5) hT dL_says_9 rfl ?_
      refine J_irem (d := 5) hT dL_says_10 rfl rfl (Nat.lt_of_le_of_lt (Nat.div_le_self _ _) hx) (by decide) (by decide) ?_
      refine J_iadd hT dL_says_11 ?_
      refine J_topil (nI_add 48 _) ?_
      refine S_istore3 hT dL_says_12 rfl rfl ?_
      refine J_bipush (v := 48) hT dL_says_13 rfl ?_
      refine J_iload_n (i := 1) hT dL_says_15 rfl rfl ?_
      refine J_bipush (v := 25) hT dL_says_16 rfl ?_
      refine J_idiv (d := 25) hT dL_says_18 rfl rfl hx (by decide) (by decide) ?_
      refine J_iconst (v := 5) hT dL_says_19 rfl ?_
      refine J_irem (d := 5) hT dL_says_20 rfl rfl (Nat.lt_of_le_of_lt (Nat.div_le_self _ _) hx) (by decide) (by decide) ?_
      refine J_iadd hT dL_says_21 ?_
      refine J_topil (nI_add 48 _) ?_
      refine S_istore4 hT dL_says_22 rfl ?_
      refine J_aload_n (i := 0) hT dL_says_24 rfl rfl ?_
      refine J_callV (ci := 8) hY dL_says_25 mfX8_wipe miX8_wipe msX8_wipe kL_97 ⟨by decide, rfl⟩ h.cw.k0 (q_wipe hZ h) rfl (by decide) rfl rfl (Nat.le_of_ble_eq_true rfl) (Nat.le_refl _) (Nat.le_refl _) (fun r1 μ1 hq => ?_)
      obtain ⟨rfl, σ0, rfl, hP0, hz0⟩ := hq
      have hF0 : TXF S (zu S 67 1 0) (fun j => ([nI (48 + Y / 5 % 5), 45, nI (48 + Y / 25 % 5)] : List Int32).getD j 0) 0 := TXF.no
      obtain ⟨S0, hS0⟩ : ∃ x, x = zu S 67 1 0 := ⟨_, rfl⟩
      rw [← hS0] at hP0 hF0
      show zJ _ _ _ _ (.int (nI L) :: _) _ _ _
      refine J_if_lt (tgt := 35) hT dL_says_28 (by decide) (fun q => absurd q (nI_pos (by have := h.tx.2.1; omega))) (fun _ => ?_)
      refine J_iconst (v := 1) hT dL_says_31 rfl ?_
      refine J_goto (tgt := 36) hT dL_says_32 (by decide) ?_
      refine S_istore5 hT dL_says_36 rfl ?_
      refine J_iload_n (i := 2) hT dL_says_38 rfl rfl ?_
      refine J_iconst (v := 4) hT dL_says_39 rfl ?_
      refine J_icmp_ne (tgt := 136) hT dL_says_40 (by decide) (fun _ => ?_) (fun q => absurd q ((by decide)))
      refine J_iload (i := 5) hT dL_says_136 rfl ?_
      refine J_if_eq (tgt := 187) hT dL_says_138 (by decide) (fun q => absurd q ((by decide))) (fun _ => ?_)
      refine J_iload_n (i := 2) hT dL_says_141 rfl rfl ?_
      refine J_if_eq (tgt := 175) hT dL_says_142 (by decide) (fun _ => ?_) (fun q => absurd ((by decide)) q)
      refine J_aload_n (i := 0) hT dL_says_175 rfl rfl ?_
      refine J_iload_n (i := 3) hT dL_says_176 rfl rfl ?_
      refine J_callW hY dL_says_177 mfL_type mtL_type mwL_100 (q_type hZ hSs hP0 (by decide) (letB_dig _ (Nat.lt_of_lt_of_le (Nat.mod_lt _ (by decide)) (by decide)))) rfl (by decide) rfl rfl (Nat.le_of_ble_eq_true rfl) (Nat.le_refl _) (Nat.le_refl _) (fun r1 μ1 hq => ?_)
      obtain ⟨rfl, σ1, S1, rfl, hP1, e1, hy1⟩ := hq
      have hF1 := hF0.more rfl e1
      have hz1 := hz0.tr hy1
      show zJ _ _ _ _ (.int (nI 1) :: _) _ _ _
      refine J_if_le (tgt := 187) hT dL_says_180 (by decide) (fun q => absurd q ((by decide))) (fun _ => ?_)
      refine J_iconst (v := 1) hT dL_says_183 rfl ?_
      refine J_goto (tgt := 188) hT dL_says_184 (by decide) ?_
      refine S_istore5 hT dL_says_188 rfl ?_
      refine J_iload (i := 5) hT dL_says_190 rfl ?_
      refine J_if_eq (tgt := 251) hT dL_says_192 (by decide) (fun q => absurd q ((by decide))) (fun _ => ?_)
      refine J_iload_n (i := 2) hT dL_says_195 rfl rfl ?_
      refine J_iconst (v := 2) hT dL_says_196 rfl ?_
      refine J_icmp_eq (tgt := 247) hT dL_says_197 (by decide) (fun q => absurd q ((by decide))) (fun _ => ?_)
      refine J_aload_n (i := 0) hT dL_says_200 rfl rfl ?_
      refine J_iload_n (i := 1) hT dL_says_201 rfl rfl ?_
      refine J_bipush (v := 125) hT dL_says_202 rfl ?_
      refine J_idiv (d := 125) hT dL_says_204 rfl rfl hx (by decide) (by decide) ?_
      refine J_iconst (v := 3) hT dL_says_205 rfl ?_
      refine J_irem (d := 3) hT dL_says_206 rfl rfl (Nat.lt_of_le_of_lt (Nat.div_le_self _ _) hx) (by decide) (by decide) ?_
      refine J_topil ((by rw [ht] : _ = nI 0)) ?_
      refine J_if_ne (tgt := 215) hT dL_says_207 (by decide) (fun q => absurd ((by decide)) q) (fun _ => ?_)
      refine J_bipush (v := 45) hT dL_says_210 rfl ?_
      refine J_goto (tgt := 232) hT dL_says_212 (by decide) ?_
      refine J_callW hY dL_says_232 mfL_type mtL_type mwL_100 (q_type hZ hSs hP1 (by decide) (by decide)) rfl (by decide) rfl rfl (Nat.le_of_ble_eq_true rfl) (Nat.le_refl _) (Nat.le_refl _) (fun r1 μ1 hq => ?_)
      obtain ⟨rfl, σ2, S2, rfl, hP2, e2, hy2⟩ := hq
      have hF2 := hF1.more rfl e2
      have hz2 := hz1.tr hy2
      show zJ _ _ _ _ (.int (nI 2) :: _) _ _ _
      refine J_if_le (tgt := 251) hT dL_says_235 (by decide) (fun q => absurd q ((by decide))) (fun _ => ?_)
      refine J_aload_n (i := 0) hT dL_says_238 rfl rfl ?_
      refine J_iload (i := 4) hT dL_says_239 rfl ?_
      refine J_callW hY dL_says_241 mfL_type mtL_type mwL_100 (q_type hZ hSs hP2 (by decide) (letB_dig _ (Nat.lt_of_lt_of_le (Nat.mod_lt _ (by decide)) (by decide)))) rfl (by decide) rfl rfl (Nat.le_of_ble_eq_true rfl) (Nat.le_refl _) (Nat.le_refl _) (fun r1 μ1 hq => ?_)
      obtain ⟨rfl, σ3, S3, rfl, hP3, e3, hy3⟩ := hq
      have hF3 := hF2.more rfl e3
      have hz3 := hz2.tr hy3
      show zJ _ _ _ _ (.int (nI 3) :: _) _ _ _
      refine J_if_le (tgt := 251) hT dL_says_244 (by decide) (fun q => absurd q ((by decide))) (fun _ => ?_)
      refine J_iconst (v := 1) hT dL_says_247 rfl ?_
      refine J_goto (tgt := 252) hT dL_says_248 (by decide) ?_
      exact J_iret hT dL_says_252 rfl rfl (⟨rfl, σ3, S3, rfl, hP3, hF3, hz3⟩) (Nat.le_refl _) (Nat.le_refl _)
    · have hd : dTx Y = [nI (48 + Y / 5 % 5), 43, nI (48 + Y / 25 % 5)] := by simp [dTx, dTl, sgL, hk, ht]
      rw [hd]
      refine J_iload_n (i := 1) hT dL_says_0 rfl rfl ?_
      refine J_iconst (v := 5) hT dL_says_1 rfl ?_
      refine J_irem (d := 5) hT dL_says_2 rfl rfl hx (by decide) (by decide) ?_
      refine J_topil ((by rw [hk] : _ = nI 0)) ?_
      refine S_istore2 hT dL_says_3 rfl rfl ?_
      refine J_bipush (v := 48) hT dL_says_4 rfl ?_
      refine J_iload_n (i := 1) hT dL_says_6 rfl rfl ?_
      refine J_iconst (v := 5) hT dL_says_7 rfl ?_
      refine J_idiv (d := 5) hT dL_says_8 rfl rfl hx (by decide) (by decide) ?_
      refine J_iconst (v := 5) hT dL_says_9 rfl ?_
      refine J_irem (d := 5) hT dL_says_10 rfl rfl (Nat.lt_of_le_of_lt (Nat.div_le_self _ _) hx) (by decide) (by decide) ?_
      refine J_iadd hT dL_says_11 ?_
      refine J_topil (nI_add 48 _) ?_
      refine S_istore3 hT dL_says_12 rfl rfl ?_
      refine J_bipush (v := 48) hT dL_says_13 rfl ?_
      refine J_iload_n (i := 1) hT dL_says_15 rfl rfl ?_
      refine J_bipush (v := 25) hT dL_says_16 rfl ?_
      refine J_idiv (d := 25) hT dL_says_18 rfl rfl hx (by decide) (by decide) ?_
      refine J_iconst (v := 5) hT dL_says_19 rfl ?_
      refine J_irem (d := 5) hT dL_says_20 rfl rfl (Nat.lt_of_le_of_lt (Nat.div_le_self _ _) hx) (by decide) (by decide) ?_
      refine J_iadd hT dL_says_21 ?_
      refine J_topil (nI_add 48 _) ?_
      refine S_istore4 hT dL_says_22 rfl ?_
      refine J_aload_n (i := 0) hT dL_says_24 rfl rfl ?_
      refine J_callV (ci := 8) hY dL_says_25 mfX8_wipe miX8_wipe msX8_wipe kL_97 ⟨by decide, rfl⟩ h.cw.k0 (q_wipe hZ h) rfl (by decide) rfl rfl (Nat.le_of_ble_eq_true rfl) (Nat.le_refl _) (Nat.le_refl _) (fun r1 μ1 hq => ?_)
      obtain ⟨rfl, σ0, rfl, hP0, hz0⟩ := hq
      have hF0 : TXF S (zu S 67 1 0) (fun j => ([nI (48 + Y / 5 % 5), 43, nI (48 + Y / 25 % 5)] : List Int32).getD j 0) 0 := TXF.no
      obtain ⟨S0, hS0⟩ : ∃ x, x = zu S 67 1 0 := ⟨_, rfl⟩
      rw [← hS0] at hP0 hF0
      show zJ _ _ _ _ (.int (nI L) :: _) _ _ _
      refine J_if_lt (tgt := 35) hT dL_says_28 (by decide) (fun q => absurd q (nI_pos (by have := h.tx.2.1; omega))) (fun _ => ?_)
      refine J_iconst (v := 1) hT dL_says_31 rfl ?_
      refine J_goto (tgt := 36) hT dL_says_32 (by decide) ?_
      refine S_istore5 hT dL_says_36 rfl ?_
      refine J_iload_n (i := 2) hT dL_says_38 rfl rfl ?_
      refine J_iconst (v := 4) hT dL_says_39 rfl ?_
      refine J_icmp_ne (tgt := 136) hT dL_says_40 (by decide) (fun _ => ?_) (fun q => absurd q ((by decide)))
      refine J_iload (i := 5) hT dL_says_136 rfl ?_
      refine J_if_eq (tgt := 187) hT dL_says_138 (by decide) (fun q => absurd q ((by decide))) (fun _ => ?_)
      refine J_iload_n (i := 2) hT dL_says_141 rfl rfl ?_
      refine J_if_eq (tgt := 175) hT dL_says_142 (by decide) (fun _ => ?_) (fun q => absurd ((by decide)) q)
      refine J_aload_n (i := 0) hT dL_says_175 rfl rfl ?_
      refine J_iload_n (i := 3) hT dL_says_176 rfl rfl ?_
      refine J_callW hY dL_says_177 mfL_type mtL_type mwL_100 (q_type hZ hSs hP0 (by decide) (letB_dig _ (Nat.lt_of_lt_of_le (Nat.mod_lt _ (by decide)) (by decide)))) rfl (by decide) rfl rfl (Nat.le_of_ble_eq_true rfl) (Nat.le_refl _) (Nat.le_refl _) (fun r1 μ1 hq => ?_)
      obtain ⟨rfl, σ1, S1, rfl, hP1, e1, hy1⟩ := hq
      have hF1 := hF0.more rfl e1
      have hz1 := hz0.tr hy1
      show zJ _ _ _ _ (.int (nI 1) :: _) _ _ _
      refine J_if_le (tgt := 187) hT dL_says_180 (by decide) (fun q => absurd q ((by decide))) (fun _ => ?_)
      refine J_iconst (v := 1) hT dL_says_183 rfl ?_
      refine J_goto (tgt := 188) hT dL_says_184 (by decide) ?_
      refine S_istore5 hT dL_says_188 rfl ?_
      refine J_iload (i := 5) hT dL_says_190 rfl ?_
      refine J_if_eq (tgt := 251) hT dL_says_192 (by decide) (fun q => absurd q ((by decide))) (fun _ => ?_)
      refine J_iload_n (i := 2) hT dL_says_195 rfl rfl ?_
      refine J_iconst (v := 2) hT dL_says_196 rfl ?_
      refine J_icmp_eq (tgt := 247) hT dL_says_197 (by decide) (fun q => absurd q ((by decide))) (fun _ => ?_)
      refine J_aload_n (i := 0) hT dL_says_200 rfl rfl ?_
      refine J_iload_n (i := 1) hT dL_says_201 rfl rfl ?_
      refine J_bipush (v := 125) hT dL_says_202 rfl ?_
      refine J_idiv (d := 125) hT dL_says_204 rfl rfl hx (by decide) (by decide) ?_
      refine J_iconst (v := 3) hT dL_says_205 rfl ?_
      refine J_irem (d := 3) hT dL_says_206 rfl rfl (Nat.lt_of_le_of_lt (Nat.div_le_self _ _) hx) (by decide) (by decide) ?_
      refine J_topil ((by rw [ht] : _ = nI 1)) ?_
      refine J_if_ne (tgt := 215) hT dL_says_207 (by decide) (fun _ => ?_) (fun q => absurd q ((by decide)))
      refine J_iload_n (i := 1) hT dL_says_215 rfl rfl ?_
      refine J_bipush (v := 125) hT dL_says_216 rfl ?_
      refine J_idiv (d := 125) hT dL_says_218 rfl rfl hx (by decide) (by decide) ?_
      refine J_iconst (v := 3) hT dL_says_219 rfl ?_
      refine J_irem (d := 3) hT dL_says_220 rfl rfl (Nat.lt_of_le_of_lt (Nat.div_le_self _ _) hx) (by decide) (by decide) ?_
      refine J_topil ((by rw [ht] : _ = nI 1)) ?_
      refine J_iconst (v := 1) hT dL_says_221 rfl ?_
      refine J_icmp_ne (tgt := 230) hT dL_says_222 (by decide) (fun q => absurd ((by decide)) q) (fun _ => ?_)
      refine J_bipush (v := 43) hT dL_says_225 rfl ?_
      refine J_goto (tgt := 232) hT dL_says_227 (by decide) ?_
      refine J_callW hY dL_says_232 mfL_type mtL_type mwL_100 (q_type hZ hSs hP1 (by decide) (by decide)) rfl (by decide) rfl rfl (Nat.le_of_ble_eq_true rfl) (Nat.le_refl _) (Nat.le_refl _) (fun r1 μ1 hq => ?_)
      obtain ⟨rfl, σ2, S2, rfl, hP2, e2, hy2⟩ := hq
      have hF2 := hF1.more rfl e2
      have hz2 := hz1.tr hy2
      show zJ _ _ _ _ (.int (nI 2) :: _) _ _ _
      refine J_if_le (tgt := 251) hT dL_says_235 (by decide) (fun q => absurd q ((by decide))) (fun _ => ?_)
      refine J_aload_n (i := 0) hT dL_says_238 rfl rfl ?_
      refine J_iload (i := 4) hT dL_says_239 rfl ?_
      refine J_callW hY dL_says_241 mfL_type mtL_type mwL_100 (q_type hZ hSs hP2 (by decide) (letB_dig _ (Nat.lt_of_lt_of_le (Nat.mod_lt _ (by decide)) (by decide)))) rfl (by decide) rfl rfl (Nat.le_of_ble_eq_true rfl) (Nat.le_refl _) (Nat.le_refl _) (fun r1 μ1 hq => ?_)
      obtain ⟨rfl, σ3, S3, rfl, hP3, e3, hy3⟩ := hq
      have hF3 := hF2.more rfl e3
      have hz3 := hz2.tr hy3
      show zJ _ _ _ _ (.int (nI 3) :: _) _ _ _
      refine J_if_le (tgt := 251) hT dL_says_244 (by decide) (fun q => absurd q ((by decide))) (fun _ => ?_)
      refine J_iconst (v := 1) hT dL_says_247 rfl ?_
      refine J_goto (tgt := 252) hT dL_says_248 (by decide) ?_
      exact J_iret hT dL_says_252 rfl rfl (⟨rfl, σ3, S3, rfl, hP3, hF3, hz3⟩) (Nat.le_refl _) (Nat.le_refl _)
    · have hd : dTx Y = [nI (48 + Y / 5 % 5), 60, nI (48 + Y / 25 % 5)] := by simp [dTx, dTl, sgL, hk, ht]
      rw [hd]
      refine J_iload_n (i := 1) hT dL_says_0 rfl rfl ?_
      refine J_iconst (v := 5) hT dL_says_1 rfl ?_
      refine J_irem (d := 5) hT dL_says_2 rfl rfl hx (by decide) (by decide) ?_
      refine J_topil ((by rw [hk] : _ = nI 0)) ?_
      refine S_istore2 hT dL_says_3 rfl rfl ?_
      refine J_bipush (v := 48) hT dL_says_4 rfl ?_
      refine J_iload_n (i := 1) hT dL_says_6 rfl rfl ?_
      refine J_iconst (v := 5) hT dL_says_7 rfl ?_
      refine J_idiv (d := 5) hT dL_says_8 rfl rfl hx (by decide) (by decide) ?_
      refine J_iconst (v := 5) hT dL_says_9 rfl ?_
      refine J_irem (d := 5) hT dL_says_10 rfl rfl (Nat.lt_of_le_of_lt (Nat.div_le_self _ _) hx) (by decide) (by decide) ?_
      refine J_iadd hT dL_says_11 ?_
      refine J_topil (nI_add 48 _) ?_
      refine S_istore3 hT dL_says_12 rfl rfl ?_
      refine J_bipush (v := 48) hT dL_says_13 rfl ?_
      refine J_iload_n (i := 1) hT dL_says_15 rfl rfl ?_
      refine J_bipush (v := 25) hT dL_says_16 rfl ?_
      refine J_idiv (d := 25) hT dL_says_18 rfl rfl hx (by decide) (by decide) ?_
      refine J_iconst (v := 5) hT dL_says_19 rfl ?_
      refine J_irem (d := 5) hT dL_says_20 rfl rfl (Nat.lt_of_le_of_lt (Nat.div_le_self _ _) hx) (by decide) (by decide) ?_
      refine J_iadd hT dL_says_21 ?_
      refine J_topil (nI_add 48 _) ?_
      refine S_istore4 hT dL_says_22 rfl ?_
      refine J_aload_n (i := 0) hT dL_says_24 rfl rfl ?_
      refine J_callV (ci := 8) hY dL_says_25 mfX8_wipe miX8_wipe msX8_wipe kL_97 ⟨by decide, rfl⟩ h.cw.k0 (q_wipe hZ h) rfl (by decide) rfl rfl (Nat.le_of_ble_eq_true rfl) (Nat.le_refl _) (Nat.le_refl _) (fun r1 μ1 hq => ?_)
      obtain ⟨rfl, σ0, rfl, hP0, hz0⟩ := hq
      have hF0 : TXF S (zu S 67 1 0) (fun j => ([nI (48 + Y / 5 % 5), 60, nI (48 + Y / 25 % 5)] : List Int32).getD j 0) 0 := TXF.no
      obtain ⟨S0, hS0⟩ : ∃ x, x = zu S 67 1 0 := ⟨_, rfl⟩
      rw [← hS0] at hP0 hF0
      show zJ _ _ _ _ (.int (nI L) :: _) _ _ _
      refine J_if_lt (tgt := 35) hT dL_says_28 (by decide) (fun q => absurd q (nI_pos (by have := h.tx.2.1; omega))) (fun _ => ?_)
      refine J_iconst (v := 1) hT dL_says_31 rfl ?_
      refine J_goto (tgt := 36) hT dL_says_32 (by decide) ?_
      refine S_istore5 hT dL_says_36 rfl ?_
      refine J_iload_n (i := 2) hT dL_says_38 rfl rfl ?_
      refine J_iconst (v := 4) hT dL_says_39 rfl ?_
      refine J_icmp_ne (tgt := 136) hT dL_says_40 (by decide) (fun _ => ?_) (fun q => absurd q ((by decide)))
      refine J_iload (i := 5) hT dL_says_136 rfl ?_
      refine J_if_eq (tgt := 187) hT dL_says_138 (by decide) (fun q => absurd q ((by decide))) (fun _ => ?_)
      refine J_iload_n (i := 2) hT dL_says_141 rfl rfl ?_
      refine J_if_eq (tgt := 175) hT dL_says_142 (by decide) (fun _ => ?_) (fun q => absurd ((by decide)) q)
      refine J_aload_n (i := 0) hT dL_says_175 rfl rfl ?_
      refine J_iload_n (i := 3) hT dL_says_176 rfl rfl ?_
      refine J_callW hY dL_says_177 mfL_type mtL_type mwL_100 (q_type hZ hSs hP0 (by decide) (letB_dig _ (Nat.lt_of_lt_of_le (Nat.mod_lt _ (by decide)) (by decide)))) rfl (by decide) rfl rfl (Nat.le_of_ble_eq_true rfl) (Nat.le_refl _) (Nat.le_refl _) (fun r1 μ1 hq => ?_)
      obtain ⟨rfl, σ1, S1, rfl, hP1, e1, hy1⟩ := hq
      have hF1 := hF0.more rfl e1
      have hz1 := hz0.tr hy1
      show zJ _ _ _ _ (.int (nI 1) :: _) _ _ _
      refine J_if_le (tgt := 187) hT dL_says_180 (by decide) (fun q => absurd q ((by decide))) (fun _ => ?_)
      refine J_iconst (v := 1) hT dL_says_183 rfl ?_
      refine J_goto (tgt := 188) hT dL_says_184 (by decide) ?_
      refine S_istore5 hT dL_says_188 rfl ?_
      refine J_iload (i := 5) hT dL_says_190 rfl ?_
      refine J_if_eq (tgt := 251) hT dL_says_192 (by decide) (fun q => absurd q ((by decide))) (fun _ => ?_)
      refine J_iload_n (i := 2) hT dL_says_195 rfl rfl ?_
      refine J_iconst (v := 2) hT dL_says_196 rfl ?_
      refine J_icmp_eq (tgt := 247) hT dL_says_197 (by decide) (fun q => absurd q ((by decide))) (fun _ => ?_)
      refine J_aload_n (i := 0) hT dL_says_200 rfl rfl ?_
      refine J_iload_n (i := 1) hT dL_says_201 rfl rfl ?_
      refine J_bipush (v := 125) hT dL_says_202 rfl ?_
      refine J_idiv (d := 125) hT dL_says_204 rfl rfl hx (by decide) (by decide) ?_
      refine J_iconst (v := 3) hT dL_says_205 rfl ?_
      refine J_irem (d := 3) hT dL_says_206 rfl rfl (Nat.lt_of_le_of_lt (Nat.div_le_self _ _) hx) (by decide) (by decide) ?_
      refine J_topil ((by rw [ht] : _ = nI 2)) ?_
      refine J_if_ne (tgt := 215) hT dL_says_207 (by decide) (fun _ => ?_) (fun q => absurd q ((by decide)))
      refine J_iload_n (i := 1) hT dL_says_215 rfl rfl ?_
      refine J_bipush (v := 125) hT dL_says_216 rfl ?_
      refine J_idiv (d := 125) hT dL_says_218 rfl rfl hx (by decide) (by decide) ?_
      refine J_iconst (v := 3) hT dL_says_219 rfl ?_
      refine J_irem (d := 3) hT dL_says_220 rfl rfl (Nat.lt_of_le_of_lt (Nat.div_le_self _ _) hx) (by decide) (by decide) ?_
      refine J_topil ((by rw [ht] : _ = nI 2)) ?_
      refine J_iconst (v := 1) hT dL_says_221 rfl ?_
      refine J_icmp_ne (tgt := 230) hT dL_says_222 (by decide) (fun _ => ?_) (fun q => absurd q ((by decide)))
      refine J_bipush (v := 60) hT dL_says_230 rfl ?_
      refine J_callW hY dL_says_232 mfL_type mtL_type mwL_100 (q_type hZ hSs hP1 (by decide) (by decide)) rfl (by decide) rfl rfl (Nat.le_of_ble_eq_true rfl) (Nat.le_refl _) (Nat.le_refl _) (fun r1 μ1 hq => ?_)
      obtain ⟨rfl, σ2, S2, rfl, hP2, e2, hy2⟩ := hq
      have hF2 := hF1.more rfl e2
      have hz2 := hz1.tr hy2
      show zJ _ _ _ _ (.int (nI 2) :: _) _ _ _
      refine J_if_le (tgt := 251) hT dL_says_235 (by decide) (fun q => absurd q ((by decide))) (fun _ => ?_)
      refine J_aload_n (i := 0) hT dL_says_238 rfl rfl ?_
      refine J_iload (i := 4) hT dL_says_239 rfl ?_
      refine J_callW hY dL_says_241 mfL_type mtL_type mwL_100 (q_type hZ hSs hP2 (by decide) (letB_dig _ (Nat.lt_of_lt_of_le (Nat.mod_lt _ (by decide)) (by decide)))) rfl (by decide) rfl rfl (Nat.le_of_ble_eq_true rfl) (Nat.le_refl _) (Nat.le_refl _) (fun r1 μ1 hq => ?_)
      obtain ⟨rfl, σ3, S3, rfl, hP3, e3, hy3⟩ := hq
      have hF3 := hF2.more rfl e3
      have hz3 := hz2.tr hy3
      show zJ _ _ _ _ (.int (nI 3) :: _) _ _ _
      refine J_if_le (tgt := 251) hT dL_says_244 (by decide) (fun q => absurd q ((by decide))) (fun _ => ?_)
      refine J_iconst (v := 1) hT dL_says_247 rfl ?_
      refine J_goto (tgt := 252) hT dL_says_248 (by decide) ?_
      exact J_iret hT dL_says_252 rfl rfl (⟨rfl, σ3, S3, rfl, hP3, hF3, hz3⟩) (Nat.le_refl _) (Nat.le_refl _)
  · rcases h3 with ht | ht | ht
    · have hd : dTx Y = [99, nI (48 + Y / 5 % 5), 45, nI (48 + Y / 25 % 5)] := by simp [dTx, dTl, sgL, hk, ht]
      rw [hd]
      refine J_iload_n (i := 1) hT dL_says_0 rfl rfl ?_
      refine J_iconst (v := 5) hT dL_says_1 rfl ?_
      refine J_irem (d := 5) hT dL_says_2 rfl rfl hx (by decide) (by decide) ?_
      refine J_topil ((by rw [hk] : _ = nI 1)) ?_
      refine S_istore2 hT dL_says_3 rfl rfl ?_
      refine J_bipush (v := 48) hT dL_says_4 rfl ?_
      refine J_iload_n (i := 1) hT dL_says_6 rfl rfl ?_
      refine J_iconst (v := 5) hT dL_says_7 rfl ?_
      refine J_idiv (d := 5) hT dL_says_8 rfl rfl hx (by decide) (by decide) ?_
      refine J_iconst (v := 5) hT dL_says_9 rfl ?_
      refine J_irem (d := 5) hT dL_says_10 rfl rfl (Nat.lt_of_le_of_lt (Nat.div_le_self _ _) hx) (by decide) (by decide) ?_
      refine J_iadd hT dL_says_11 ?_
      refine J_topil (nI_add 48 _) ?_
      refine S_istore3 hT dL_says_12 rfl rfl ?_
      refine J_bipush (v := 48) hT dL_says_13 rfl ?_
      refine J_iload_n (i := 1) hT dL_says_15 rfl rfl ?_
      refine J_bipush (v := 25) hT dL_says_16 rfl ?_
      refine J_idiv (d := 25) hT dL_says_18 rfl rfl hx (by decide) (by decide) ?_
      refine J_iconst (v := 5) hT dL_says_19 rfl ?_
      refine J_irem (d := 5) hT dL_says_20 rfl rfl (Nat.lt_of_le_of_lt (Nat.div_le_self _ _) hx) (by decide) (by decide) ?_
      refine J_iadd hT dL_says_21 ?_
      refine J_topil (nI_add 48 _) ?_
      refine S_istore4 hT dL_says_22 rfl ?_
      refine J_aload_n (i := 0) hT dL_says_24 rfl rfl ?_
      refine J_callV (ci := 8) hY dL_says_25 mfX8_wipe miX8_wipe msX8_wipe kL_97 ⟨by decide, rfl⟩ h.cw.k0 (q_wipe hZ h) rfl (by decide) rfl rfl (Nat.le_of_ble_eq_true rfl) (Nat.le_refl _) (Nat.le_refl _) (fun r1 μ1 hq => ?_)
      obtain ⟨rfl, σ0, rfl, hP0, hz0⟩ := hq
      have hF0 : TXF S (zu S 67 1 0) (fun j => ([99, nI (48 + Y / 5 % 5), 45, nI (48 + Y / 25 % 5)] : List Int32).getD j 0) 0 := TXF.no
      obtain ⟨S0, hS0⟩ : ∃ x, x = zu S 67 1 0 := ⟨_, rfl⟩
      rw [← hS0] at hP0 hF0
      show zJ _ _ _ _ (.int (nI L) :: _) _ _ _
      refine J_if_lt (tgt := 35) hT dL_says_28 (by decide) (fun q => absurd q (nI_pos (by have := h.tx.2.1; omega))) (fun _ => ?_)
      refine J_iconst (v := 1) hT dL_says_31 rfl ?_
      refine J_goto (tgt := 36) hT dL_says_32 (by decide) ?_
      refine S_istore5 hT dL_says_36 rfl ?_
      refine J_iload_n (i := 2) hT dL_says_38 rfl rfl ?_
      refine J_iconst (v := 4) hT dL_says_39 rfl ?_
      refine J_icmp_ne (tgt := 136) hT dL_says_40 (by decide) (fun _ => ?_) (fun q => absurd q ((by decide)))
      refine J_iload (i := 5) hT dL_says_136 rfl ?_
      refine J_if_eq (tgt := 187) hT dL_says_138 (by decide) (fun q => absurd q ((by decide))) (fun _ => ?_)
      refine J_iload_n (i := 2) hT dL_says_141 rfl rfl ?_
      refine J_if_eq (tgt := 175) hT dL_says_142 (by decide) (fun q => absurd q ((by decide))) (fun _ => ?_)
      refine J_aload_n (i := 0) hT dL_says_145 rfl rfl ?_
      refine J_iload_n (i := 2) hT dL_says_146 rfl rfl ?_
      refine J_iconst (v := 1) hT dL_says_147 rfl ?_
      refine J_icmp_ne (tgt := 156) hT dL_says_148 (by decide) (fun q => absurd ((by decide)) q) (fun _ => ?_)
      refine J_bipush (v := 99) hT dL_says_151 rfl ?_
      refine J_goto (tgt := 168) hT dL_says_153 (by decide) ?_
      refine J_callW hY dL_says_168 mfL_type mtL_type mwL_100 (q_type hZ hSs hP0 (by decide) (by decide)) rfl (by decide) rfl rfl (Nat.le_of_ble_eq_true rfl) (Nat.le_refl _) (Nat.le_refl _) (fun r1 μ1 hq => ?_)
      obtain ⟨rfl, σ1, S1, rfl, hP1, e1, hy1⟩ := hq
      have hF1 := hF0.more rfl e1
      have hz1 := hz0.tr hy1
      show zJ _ _ _ _ (.int (nI 1) :: _) _ _ _
      refine J_iconst (v := 1) hT dL_says_171 rfl ?_
      refine J_icmp_ne (tgt := 187) hT dL_says_172 (by decide) (fun q => absurd (rfl) q) (fun _ => ?_)
      refine J_aload_n (i := 0) hT dL_says_175 rfl rfl ?_
      refine J_iload_n (i := 3) hT dL_says_176 rfl rfl ?_
      refine J_callW hY dL_says_177 mfL_type mtL_type mwL_100 (q_type hZ hSs hP1 (by decide) (letB_dig _ (Nat.lt_of_lt_of_le (Nat.mod_lt _ (by decide)) (by decide)))) rfl (by decide) rfl rfl (Nat.le_of_ble_eq_true rfl) (Nat.le_refl _) (Nat.le_refl _) (fun r1 μ1 hq => ?_)
      obtain ⟨rfl, σ2, S2, rfl, hP2, e2, hy2⟩ := hq
      have hF2 := hF1.more rfl e2
      have hz2 := hz1.tr hy2
      show zJ _ _ _ _ (.int (nI 2) :: _) _ _ _
      refine J_if_le (tgt := 187) hT dL_says_180 (by decide) (fun q => absurd q ((by decide))) (fun _ => ?_)
      refine J_iconst (v := 1) hT dL_says_183 rfl ?_
      refine J_goto (tgt := 188) hT dL_says_184 (by decide) ?_
      refine S_istore5 hT dL_says_188 rfl ?_
      refine J_iload (i := 5) hT dL_says_190 rfl ?_
      refine J_if_eq (tgt := 251) hT dL_says_192 (by decide) (fun q => absurd q ((by decide))) (fun _ => ?_)
      refine J_iload_n (i := 2) hT dL_says_195 rfl rfl ?_
      refine J_iconst (v := 2) hT dL_says_196 rfl ?_
      refine J_icmp_eq (tgt := 247) hT dL_says_197 (by decide) (fun q => absurd q ((by decide))) (fun _ => ?_)
      refine J_aload_n (i := 0) hT dL_says_200 rfl rfl ?_
      refine J_iload_n (i := 1) hT dL_says_201 rfl rfl ?_
      refine J_bipush (v := 125) hT dL_says_202 rfl ?_
      refine J_idiv (d := 125) hT dL_says_204 rfl rfl hx (by decide) (by decide) ?_
      refine J_iconst (v := 3) hT dL_says_205 rfl ?_
      refine J_irem (d := 3) hT dL_says_206 rfl rfl (Nat.lt_of_le_of_lt (Nat.div_le_self _ _) hx) (by decide) (by decide) ?_
      refine J_topil ((by rw [ht] : _ = nI 0)) ?_
      refine J_if_ne (tgt := 215) hT dL_says_207 (by decide) (fun q => absurd ((by decide)) q) (fun _ => ?_)
      refine J_bipush (v := 45) hT dL_says_210 rfl ?_
      refine J_goto (tgt := 232) hT dL_says_212 (by decide) ?_
      refine J_callW hY dL_says_232 mfL_type mtL_type mwL_100 (q_type hZ hSs hP2 (by decide) (by decide)) rfl (by decide) rfl rfl (Nat.le_of_ble_eq_true rfl) (Nat.le_refl _) (Nat.le_refl _) (fun r1 μ1 hq => ?_)
      obtain ⟨rfl, σ3, S3, rfl, hP3, e3, hy3⟩ := hq
      have hF3 := hF2.more rfl e3
      have hz3 := hz2.tr hy3
      show zJ _ _ _ _ (.int (nI 3) :: _) _ _ _
      refine J_if_le (tgt := 251) hT dL_says_235 (by decide) (fun q => absurd q ((by decide))) (fun _ => ?_)
      refine J_aload_n (i := 0) hT dL_says_238 rfl rfl ?_
      refine J_iload (i := 4) hT dL_says_239 rfl ?_
      refine J_callW hY dL_says_241 mfL_type mtL_type mwL_100 (q_type hZ hSs hP3 (by decide) (letB_dig _ (Nat.lt_of_lt_of_le (Nat.mod_lt _ (by decide)) (by decide)))) rfl (by decide) rfl rfl (Nat.le_of_ble_eq_true rfl) (Nat.le_refl _) (Nat.le_refl _) (fun r1 μ1 hq => ?_)
      obtain ⟨rfl, σ4, S4, rfl, hP4, e4, hy4⟩ := hq
      have hF4 := hF3.more rfl e4
      have hz4 := hz3.tr hy4
      show zJ _ _ _ _ (.int (nI 4) :: _) _ _ _
      refine J_if_le (tgt := 251) hT dL_says_244 (by decide) (fun q => absurd q ((by decide))) (fun _ => ?_)
      refine J_iconst (v := 1) hT dL_says_247 rfl ?_
      refine J_goto (tgt := 252) hT dL_says_248 (by decide) ?_
      exact J_iret hT dL_says_252 rfl rfl (⟨rfl, σ4, S4, rfl, hP4, hF4, hz4⟩) (Nat.le_refl _) (Nat.le_refl _)
    · have hd : dTx Y = [99, nI (48 + Y / 5 % 5), 43, nI (48 + Y / 25 % 5)] := by simp [dTx, dTl, sgL, hk, ht]
      rw [hd]
      refine J_iload_n (i := 1) hT dL_says_0 rfl rfl ?_
      refine J_iconst (v := 5) hT dL_says_1 rfl ?_
      refine J_irem (d := 5) hT dL_says_2 rfl rfl hx (by decide) (by decide) ?_
      refine J_topil ((by rw [hk] : _ = nI 1)) ?_
      refine S_istore2 hT dL_says_3 rfl rfl ?_
      refine J_bipush (v := 48) hT dL_says_4 rfl ?_
      refine J_iload_n (i := 1) hT dL_says_6 rfl rfl ?_
      refine J_iconst (v := 5) hT dL_says_7 rfl ?_
      refine J_idiv (d := 5) hT dL_says_8 rfl rfl hx (by decide) (by decide) ?_
      refine J_iconst (v := 5) hT dL_says_9 rfl ?_
      refine J_irem (d := 5) hT dL_says_10 rfl rfl (Nat.lt_of_le_of_lt (Nat.div_le_self _ _) hx) (by decide) (by decide) ?_
      refine J_iadd hT dL_says_11 ?_
      refine J_topil (nI_add 48 _) ?_
      refine S_istore3 hT dL_says_12 rfl rfl ?_
      refine J_bipush (v := 48) hT dL_says_13 rfl ?_
      refine J_iload_n (i := 1) hT dL_says_15 rfl rfl ?_
      refine J_bipush (v := 25) hT dL_says_16 rfl ?_
      refine J_idiv (d := 25) hT dL_says_18 rfl rfl hx (by decide) (by decide) ?_
      refine J_iconst (v := 5) hT dL_says_19 rfl ?_
      refine J_irem (d := 5) hT dL_says_20 rfl rfl (Nat.lt_of_le_of_lt (Nat.div_le_self _ _) hx) (by decide) (by decide) ?_
      refine J_iadd hT dL_says_21 ?_
      refine J_topil (nI_add 48 _) ?_
      refine S_istore4 hT dL_says_22 rfl ?_
      refine J_aload_n (i := 0) hT dL_says_24 rfl rfl ?_
      refine J_callV (ci := 8) hY dL_says_25 mfX8_wipe miX8_wipe msX8_wipe kL_97 ⟨by decide, rfl⟩ h.cw.k0 (q_wipe hZ h) rfl (by decide) rfl rfl (Nat.le_of_ble_eq_true rfl) (Nat.le_refl _) (Nat.le_refl _) (fun r1 μ1 hq => ?_)
      obtain ⟨rfl, σ0, rfl, hP0, hz0⟩ := hq
      have hF0 : TXF S (zu S 67 1 0) (fun j => ([99, nI (48 + Y / 5 % 5), 43, nI (48 + Y / 25 % 5)] : List Int32).getD j 0) 0 := TXF.no
      obtain ⟨S0, hS0⟩ : ∃ x, x = zu S 67 1 0 := ⟨_, rfl⟩
      rw [← hS0] at hP0 hF0
      show zJ _ _ _ _ (.int (nI L) :: _) _ _ _
      refine J_if_lt (tgt := 35) hT dL_says_28 (by decide) (fun q => absurd q (nI_pos (by have := h.tx.2.1; omega))) (fun _ => ?_)
      refine J_iconst (v := 1) hT dL_says_31 rfl ?_
      refine J_goto (tgt := 36) hT dL_says_32 (by decide) ?_
      refine S_istore5 hT dL_says_36 rfl ?_
      refine J_iload_n (i := 2) hT dL_says_38 rfl rfl ?_
      refine J_iconst (v := 4) hT dL_says_39 rfl ?_
      refine J_icmp_ne (tgt := 136) hT dL_says_40 (by decide) (fun _ => ?_) (fun q => absurd q ((by decide)))
      refine J_iload (i := 5) hT dL_says_136 rfl ?_
      refine J_if_eq (tgt := 187) hT dL_says_138 (by decide) (fun q => absurd q ((by decide))) (fun _ => ?_)
      refine J_iload_n (i := 2) hT dL_says_141 rfl rfl ?_
      refine J_if_eq (tgt := 175) hT dL_says_142 (by decide) (fun q => absurd q ((by decide))) (fun _ => ?_)
      refine J_aload_n (i := 0) hT dL_says_145 rfl rfl ?_
      refine J_iload_n (i := 2) hT dL_says_146 rfl rfl ?_
      refine J_iconst (v := 1) hT dL_says_147 rfl ?_
      refine J_icmp_ne (tgt := 156) hT dL_says_148 (by decide) (fun q => absurd ((by decide)) q) (fun _ => ?_)
      refine J_bipush (v := 99) hT dL_says_151 rfl ?_
      refine J_goto (tgt := 168) hT dL_says_153 (by decide) ?_
      refine J_callW hY dL_says_168 mfL_type mtL_type mwL_100 (q_type hZ hSs hP0 (by decide) (by decide)) rfl (by decide) rfl rfl (Nat.le_of_ble_eq_true rfl) (Nat.le_refl _) (Nat.le_refl _) (fun r1 μ1 hq => ?_)
      obtain ⟨rfl, σ1, S1, rfl, hP1, e1, hy1⟩ := hq
      have hF1 := hF0.more rfl e1
      have hz1 := hz0.tr hy1
      show zJ _ _ _ _ (.int (nI 1) :: _) _ _ _
      refine J_iconst (v := 1) hT dL_says_171 rfl ?_
      refine J_icmp_ne (tgt := 187) hT dL_says_172 (by decide) (fun q => absurd (rfl) q) (fun _ => ?_)
      refine J_aload_n (i := 0) hT dL_says_175 rfl rfl ?_
      refine J_iload_n (i := 3) hT dL_says_176 rfl rfl ?_
      refine J_callW hY dL_says_177 mfL_type mtL_type mwL_100 (q_type hZ hSs hP1 (by decide) (letB_dig _ (Nat.lt_of_lt_of_le (Nat.mod_lt _ (by decide)) (by decide)))) rfl (by decide) rfl rfl (Nat.le_of_ble_eq_true rfl) (Nat.le_refl _) (Nat.le_refl _) (fun r1 μ1 hq => ?_)
      obtain ⟨rfl, σ2, S2, rfl, hP2, e2, hy2⟩ := hq
      have hF2 := hF1.more rfl e2
      have hz2 := hz1.tr hy2
      show zJ _ _ _ _ (.int (nI 2) :: _) _ _ _
      refine J_if_le (tgt := 187) hT dL_says_180 (by decide) (fun q => absurd q ((by decide))) (fun _ => ?_)
      refine J_iconst (v := 1) hT dL_says_183 rfl ?_
      refine J_goto (tgt := 188) hT dL_says_184 (by decide) ?_
      refine S_istore5 hT dL_says_188 rfl ?_
      refine J_iload (i := 5) hT dL_says_190 rfl ?_
      refine J_if_eq (tgt := 251) hT dL_says_192 (by decide) (fun q => absurd q ((by decide))) (fun _ => ?_)
      refine J_iload_n (i := 2) hT dL_says_195 rfl rfl ?_
      refine J_iconst (v := 2) hT dL_says_196 rfl ?_
      refine J_icmp_eq (tgt := 247) hT dL_says_197 (by decide) (fun q => absurd q ((by decide))) (fun _ => ?_)
      refine J_aload_n (i := 0) hT dL_says_200 rfl rfl ?_
      refine J_iload_n (i := 1) hT dL_says_201 rfl rfl ?_
      refine J_bipush (v := 125) hT dL_says_202 rfl ?_
      refine J_idiv (d := 125) hT dL_says_204 rfl rfl hx (by decide) (by decide) ?_
      refine J_iconst (v := 3) hT dL_says_205 rfl ?_
      refine J_irem (d := 3) hT dL_says_206 rfl rfl (Nat.lt_of_le_of_lt (Nat.div_le_self _ _) hx) (by decide) (by decide) ?_
      refine J_topil ((by rw [ht] : _ = nI 1)) ?_
      refine J_if_ne (tgt := 215) hT dL_says_207 (by decide) (fun _ => ?_) (fun q => absurd q ((by decide)))
      refine J_iload_n (i := 1) hT dL_says_215 rfl rfl ?_
      refine J_bipush (v := 125) hT dL_says_216 rfl ?_
      refine J_idiv (d := 125) hT dL_says_218 rfl rfl hx (by decide) (by decide) ?_
      refine J_iconst (v := 3) hT dL_says_219 rfl ?_
      refine J_irem (d := 3) hT dL_says_220 rfl rfl (Nat.lt_of_le_of_lt (Nat.div_le_self _ _) hx) (by decide) (by decide) ?_
      refine J_topil ((by rw [ht] : _ = nI 1)) ?_
      refine J_iconst (v := 1) hT dL_says_221 rfl ?_
      refine J_icmp_ne (tgt := 230) hT dL_says_222 (by decide) (fun q => absurd ((by decide)) q) (fun _ => ?_)
      refine J_bipush (v := 43) hT dL_says_225 rfl ?_
      refine J_goto (tgt := 232) hT dL_says_227 (by decide) ?_
      refine J_callW hY dL_says_232 mfL_type mtL_type mwL_100 (q_type hZ hSs hP2 (by decide) (by decide)) rfl (by decide) rfl rfl (Nat.le_of_ble_eq_true rfl) (Nat.le_refl _) (Nat.le_refl _) (fun r1 μ1 hq => ?_)
      obtain ⟨rfl, σ3, S3, rfl, hP3, e3, hy3⟩ := hq
      have hF3 := hF2.more rfl e3
      have hz3 := hz2.tr hy3
      show zJ _ _ _ _ (.int (nI 3) :: _) _ _ _
      refine J_if_le (tgt := 251) hT dL_says_235 (by decide) (fun q => absurd q ((by decide))) (fun _ => ?_)
      refine J_aload_n (i := 0) hT dL_says_238 rfl rfl ?_
      refine J_iload (i := 4) hT dL_says_239 rfl ?_
      refine J_callW hY dL_says_241 mfL_type mtL_type mwL_100 (q_type hZ hSs hP3 (by decide) (letB_dig _ (Nat.lt_of_lt_of_le (Nat.mod_lt _ (by decide)) (by decide)))) rfl (by decide) rfl rfl (Nat.le_of_ble_eq_true rfl) (Nat.le_refl _) (Nat.le_refl _) (fun r1 μ1 hq => ?_)
      obtain ⟨rfl, σ4, S4, rfl, hP4, e4, hy4⟩ := hq
      have hF4 := hF3.more rfl e4
      have hz4 := hz3.tr hy4
      show zJ _ _ _ _ (.int (nI 4) :: _) _ _ _
      refine J_if_le (tgt := 251) hT dL_says_244 (by decide) (fun q => absurd q ((by decide))) (fun _ => ?_)
      refine J_iconst (v := 1) hT dL_says_247 rfl ?_
      refine J_goto (tgt := 252) hT dL_says_248 (by decide) ?_
      exact J_iret hT dL_says_252 rfl rfl (⟨rfl, σ4, S4, rfl, hP4, hF4, hz4⟩) (Nat.le_refl _) (Nat.le_refl _)
    · have hd : dTx Y = [99, nI (48 + Y / 5 % 5), 60, nI (48 + Y / 25 % 5)] := by simp [dTx, dTl, sgL, hk, ht]
      rw [hd]
      refine J_iload_n (i := 1) hT dL_says_0 rfl rfl ?_
      refine J_iconst (v := 5) hT dL_says_1 rfl ?_
      refine J_irem (d := 5) hT dL_says_2 rfl rfl hx (by decide) (by decide) ?_
      refine J_topil ((by rw [hk] : _ = nI 1)) ?_
      refine S_istore2 hT dL_says_3 rfl rfl ?_
      refine J_bipush (v := 48) hT dL_says_4 rfl ?_
      refine J_iload_n (i := 1) hT dL_says_6 rfl rfl ?_
      refine J_iconst (v := 5) hT dL_says_7 rfl ?_
      refine J_idiv (d := 5) hT dL_says_8 rfl rfl hx (by decide) (by decide) ?_
      refine J_iconst (v := 5) hT dL_says_9 rfl ?_
      refine J_irem (d := 5) hT dL_says_10 rfl rfl (Nat.lt_of_le_of_lt (Nat.div_le_self _ _) hx) (by decide) (by decide) ?_
      refine J_iadd hT dL_says_11 ?_
      refine J_topil (nI_add 48 _) ?_
      refine S_istore3 hT dL_says_12 rfl rfl ?_
      refine J_bipush (v := 48) hT dL_says_13 rfl ?_
      refine J_iload_n (i := 1) hT dL_says_15 rfl rfl ?_
      refine J_bipush (v := 25) hT dL_says_16 rfl ?_
      refine J_idiv (d := 25) hT dL_says_18 rfl rfl hx (by decide) (by decide) ?_
      refine J_iconst (v := 5) hT dL_says_19 rfl ?_
      refine J_irem (d := 5) hT dL_says_20 rfl rfl (Nat.lt_of_le_of_lt (Nat.div_le_self _ _) hx) (by decide) (by decide) ?_
      refine J_iadd hT dL_says_21 ?_
      refine J_topil (nI_add 48 _) ?_
      refine S_istore4 hT dL_says_22 rfl ?_
      refine J_aload_n (i := 0) hT dL_says_24 rfl rfl ?_
      refine J_callV (ci := 8) hY dL_says_25 mfX8_wipe miX8_wipe msX8_wipe kL_97 ⟨by decide, rfl⟩ h.cw.k0 (q_wipe hZ h) rfl (by decide) rfl rfl (Nat.le_of_ble_eq_true rfl) (Nat.le_refl _) (Nat.le_refl _) (fun r1 μ1 hq => ?_)
      obtain ⟨rfl, σ0, rfl, hP0, hz0⟩ := hq
      have hF0 : TXF S (zu S 67 1 0) (fun j => ([99, nI (48 + Y / 5 % 5), 60, nI (48 + Y / 25 % 5)] : List Int32).getD j 0) 0 := TXF.no
      obtain ⟨S0, hS0⟩ : ∃ x, x = zu S 67 1 0 := ⟨_, rfl⟩
      rw [← hS0] at hP0 hF0
      show zJ _ _ _ _ (.int (nI L) :: _) _ _ _
      refine J_if_lt (tgt := 35) hT dL_says_28 (by decide) (fun q => absurd q (nI_pos (by have := h.tx.2.1; omega))) (fun _ => ?_)
      refine J_iconst (v := 1) hT dL_says_31 rfl ?_
      refine J_goto (tgt := 36) hT dL_says_32 (by decide) ?_
      refine S_istore5 hT dL_says_36 rfl ?_
      refine J_iload_n (i := 2) hT dL_says_38 rfl rfl ?_
      refine J_iconst (v := 4) hT dL_says_39 rfl ?_
      refine J_icmp_ne (tgt := 136) hT dL_says_40 (by decide) (fun _ => ?_) (fun q => absurd q ((by decide)))
      refine J_iload (i := 5) hT dL_says_136 rfl ?_
      refine J_if_eq (tgt := 187) hT dL_says_138 (by decide) (fun q => absurd q ((by decide))) (fun _ => ?_)
      refine J_iload_n (i := 2) hT dL_says_141 rfl rfl ?_
      refine J_if_eq (tgt := 175) hT dL_says_142 (by decide) (fun q => absurd q ((by decide))) (fun _ => ?_)
      refine J_aload_n (i := 0) hT dL_says_145 rfl rfl ?_
      refine J_iload_n (i := 2) hT dL_says_146 rfl rfl ?_
      refine J_iconst (v := 1) hT dL_says_147 rfl ?_
      refine J_icmp_ne (tgt := 156) hT dL_says_148 (by decide) (fun q => absurd ((by decide)) q) (fun _ => ?_)
      refine J_bipush (v := 99) hT dL_says_151 rfl ?_
      refine J_goto (tgt := 168) hT dL_says_153 (by decide) ?_
      refine J_callW hY dL_says_168 mfL_type mtL_type mwL_100 (q_type hZ hSs hP0 (by decide) (by decide)) rfl (by decide) rfl rfl (Nat.le_of_ble_eq_true rfl) (Nat.le_refl _) (Nat.le_refl _) (fun r1 μ1 hq => ?_)
      obtain ⟨rfl, σ1, S1, rfl, hP1, e1, hy1⟩ := hq
      have hF1 := hF0.more rfl e1
      have hz1 := hz0.tr hy1
      show zJ _ _ _ _ (.int (nI 1) :: _) _ _ _
      refine J_iconst (v := 1) hT dL_says_171 rfl ?_
      refine J_icmp_ne (tgt := 187) hT dL_says_172 (by decide) (fun q => absurd (rfl) q) (fun _ => ?_)
      refine J_aload_n (i := 0) hT dL_says_175 rfl rfl ?_
      refine J_iload_n (i := 3) hT dL_says_176 rfl rfl ?_
      refine J_callW hY dL_says_177 mfL_type mtL_type mwL_100 (q_type hZ hSs hP1 (by decide) (letB_dig _ (Nat.lt_of_lt_of_le (Nat.mod_lt _ (by decide)) (by decide)))) rfl (by decide) rfl rfl (Nat.le_of_ble_eq_true rfl) (Nat.le_refl _) (Nat.le_refl _) (fun r1 μ1 hq => ?_)
      obtain ⟨rfl, σ2, S2, rfl, hP2, e2, hy2⟩ := hq
      have hF2 := hF1.more rfl e2
      have hz2 := hz1.tr hy2
      show zJ _ _ _ _ (.int (nI 2) :: _) _ _ _
      refine J_if_le (tgt := 187) hT dL_says_180 (by decide) (fun q => absurd q ((by decide))) (fun _ => ?_)
      refine J_iconst (v := 1) hT dL_says_183 rfl ?_
      refine J_goto (tgt := 188) hT dL_says_184 (by decide) ?_
      refine S_istore5 hT dL_says_188 rfl ?_
      refine J_iload (i := 5) hT dL_says_190 rfl ?_
      refine J_if_eq (tgt := 251) hT dL_says_192 (by decide) (fun q => absurd q ((by decide))) (fun _ => ?_)
      refine J_iload_n (i := 2) hT dL_says_195 rfl rfl ?_
      refine J_iconst (v := 2) hT dL_says_196 rfl ?_
      refine J_icmp_eq (tgt := 247) hT dL_says_197 (by decide) (fun q => absurd q ((by decide))) (fun _ => ?_)
      refine J_aload_n (i := 0) hT dL_says_200 rfl rfl ?_
      refine J_iload_n (i := 1) hT dL_says_201 rfl rfl ?_
      refine J_bipush (v := 125) hT dL_says_202 rfl ?_
      refine J_idiv (d := 125) hT dL_says_204 rfl rfl hx (by decide) (by decide) ?_
      refine J_iconst (v := 3) hT dL_says_205 rfl ?_
      refine J_irem (d := 3) hT dL_says_206 rfl rfl (Nat.lt_of_le_of_lt (Nat.div_le_self _ _) hx) (by decide) (by decide) ?_
      refine J_topil ((by rw [ht] : _ = nI 2)) ?_
      refine J_if_ne (tgt := 215) hT dL_says_207 (by decide) (fun _ => ?_) (fun q => absurd q ((by decide)))
      refine J_iload_n (i := 1) hT dL_says_215 rfl rfl ?_
      refine J_bipush (v := 125) hT dL_says_216 rfl ?_
      refine J_idiv (d := 125) hT dL_says_218 rfl rfl hx (by decide) (by decide) ?_
      refine J_iconst (v := 3) hT dL_says_219 rfl ?_
      refine J_irem (d := 3) hT dL_says_220 rfl rfl (Nat.lt_of_le_of_lt (Nat.div_le_self _ _) hx) (by decide) (by decide) ?_
      refine J_topil ((by rw [ht] : _ = nI 2)) ?_
      refine J_iconst (v := 1) hT dL_says_221 rfl ?_
      refine J_icmp_ne (tgt := 230) hT dL_says_222 (by decide) (fun _ => ?_) (fun q => absurd q ((by decide)))
      refine J_bipush (v := 60) hT dL_says_230 rfl ?_
      refine J_callW hY dL_says_232 mfL_type mtL_type mwL_100 (q_type hZ hSs hP2 (by decide) (by decide)) rfl (by decide) rfl rfl (Nat.le_of_ble_eq_true rfl) (Nat.le_refl _) (Nat.le_refl _) (fun r1 μ1 hq => ?_)
      obtain ⟨rfl, σ3, S3, rfl, hP3, e3, hy3⟩ := hq
      have hF3 := hF2.more rfl e3
      have hz3 := hz2.tr hy3
      show zJ _ _ _ _ (.int (nI 3) :: _) _ _ _
      refine J_if_le (tgt := 251) hT dL_says_235 (by decide) (fun q => absurd q ((by decide))) (fun _ => ?_)
      refine J_aload_n (i := 0) hT dL_says_238 rfl rfl ?_
      refine J_iload (i := 4) hT dL_says_239 rfl ?_
      refine J_callW hY dL_says_241 mfL_type mtL_type mwL_100 (q_type hZ hSs hP3 (by decide) (letB_dig _ (Nat.lt_of_lt_of_le (Nat.mod_lt _ (by decide)) (by decide)))) rfl (by decide) rfl rfl (Nat.le_of_ble_eq_true rfl) (Nat.le_refl _) (Nat.le_refl _) (fun r1 μ1 hq => ?_)
      obtain ⟨rfl, σ4, S4, rfl, hP4, e4, hy4⟩ := hq
      have hF4 := hF3.more rfl e4
      have hz4 := hz3.tr hy4
      show zJ _ _ _ _ (.int (nI 4) :: _) _ _ _
      refine J_if_le (tgt := 251) hT dL_says_244 (by decide) (fun q => absurd q ((by decide))) (fun _ => ?_)
      refine J_iconst (v := 1) hT dL_says_247 rfl ?_
      refine J_goto (tgt := 252) hT dL_says_248 (by decide) ?_
      exact J_iret hT dL_says_252 rfl rfl (⟨rfl, σ4, S4, rfl, hP4, hF4, hz4⟩) (Nat.le_refl _) (Nat.le_refl _)
  · skip
    have hd : dTx Y = [114, nI (48 + Y / 5 % 5)] := by simp [dTx, dTl, sgL, hk]
    rw [hd]
    refine J_iload_n (i := 1) hT dL_says_0 rfl rfl ?_
    refine J_iconst (v := 5) hT dL_says_1 rfl ?_
    refine J_irem (d := 5) hT dL_says_2 rfl rfl hx (by decide) (by decide) ?_
    refine J_topil ((by rw [hk] : _ = nI 2)) ?_
    refine S_istore2 hT dL_says_3 rfl rfl ?_
    refine J_bipush (v := 48) hT dL_says_4 rfl ?_
    refine J_iload_n (i := 1) hT dL_says_6 rfl rfl ?_
    refine J_iconst (v := 5) hT dL_says_7 rfl ?_
    refine J_idiv (d := 5) hT dL_says_8 rfl rfl hx (by decide) (by decide) ?_
    refine J_iconst (v := 5) hT dL_says_9 rfl ?_
    refine J_irem (d := 5) hT dL_says_10 rfl rfl (Nat.lt_of_le_of_lt (Nat.div_le_self _ _) hx) (by decide) (by decide) ?_
    refine J_iadd hT dL_says_11 ?_
    refine J_topil (nI_add 48 _) ?_
    refine S_istore3 hT dL_says_12 rfl rfl ?_
    refine J_bipush (v := 48) hT dL_says_13 rfl ?_
    refine J_iload_n (i := 1) hT dL_says_15 rfl rfl ?_
    refine J_bipush (v := 25) hT dL_says_16 rfl ?_
    refine J_idiv (d := 25) hT dL_says_18 rfl rfl hx (by decide) (by decide) ?_
    refine J_iconst (v := 5) hT dL_says_19 rfl ?_
    refine J_irem (d := 5) hT dL_says_20 rfl rfl (Nat.lt_of_le_of_lt (Nat.div_le_self _ _) hx) (by decide) (by decide) ?_
    refine J_iadd hT dL_says_21 ?_
    refine J_topil (nI_add 48 _) ?_
    refine S_istore4 hT dL_says_22 rfl ?_
    refine J_aload_n (i := 0) hT dL_says_24 rfl rfl ?_
    refine J_callV (ci := 8) hY dL_says_25 mfX8_wipe miX8_wipe msX8_wipe kL_97 ⟨by decide, rfl⟩ h.cw.k0 (q_wipe hZ h) rfl (by decide) rfl rfl (Nat.le_of_ble_eq_true rfl) (Nat.le_refl _) (Nat.le_refl _) (fun r1 μ1 hq => ?_)
    obtain ⟨rfl, σ0, rfl, hP0, hz0⟩ := hq
    have hF0 : TXF S (zu S 67 1 0) (fun j => ([114, nI (48 + Y / 5 % 5)] : List Int32).getD j 0) 0 := TXF.no
    obtain ⟨S0, hS0⟩ : ∃ x, x = zu S 67 1 0 := ⟨_, rfl⟩
    rw [← hS0] at hP0 hF0
    show zJ _ _ _ _ (.int (nI L) :: _) _ _ _
    refine J_if_lt (tgt := 35) hT dL_says_28 (by decide) (fun q => absurd q (nI_pos (by have := h.tx.2.1; omega))) (fun _ => ?_)
    refine J_iconst (v := 1) hT dL_says_31 rfl ?_
    refine J_goto (tgt := 36) hT dL_says_32 (by decide) ?_
    refine S_istore5 hT dL_says_36 rfl ?_
    refine J_iload_n (i := 2) hT dL_says_38 rfl rfl ?_
    refine J_iconst (v := 4) hT dL_says_39 rfl ?_
    refine J_icmp_ne (tgt := 136) hT dL_says_40 (by decide) (fun _ => ?_) (fun q => absurd q ((by decide)))
    refine J_iload (i := 5) hT dL_says_136 rfl ?_
    refine J_if_eq (tgt := 187) hT dL_says_138 (by decide) (fun q => absurd q ((by decide))) (fun _ => ?_)
    refine J_iload_n (i := 2) hT dL_says_141 rfl rfl ?_
    refine J_if_eq (tgt := 175) hT dL_says_142 (by decide) (fun q => absurd q ((by decide))) (fun _ => ?_)
    refine J_aload_n (i := 0) hT dL_says_145 rfl rfl ?_
    refine J_iload_n (i := 2) hT dL_says_146 rfl rfl ?_
    refine J_iconst (v := 1) hT dL_says_147 rfl ?_
    refine J_icmp_ne (tgt := 156) hT dL_says_148 (by decide) (fun _ => ?_) (fun q => absurd q ((by decide)))
    refine J_iload_n (i := 2) hT dL_says_156 rfl rfl ?_
    refine J_iconst (v := 2) hT dL_says_157 rfl ?_
    refine J_icmp_ne (tgt := 166) hT dL_says_158 (by decide) (fun q => absurd ((by decide)) q) (fun _ => ?_)
    refine J_bipush (v := 114) hT dL_says_161 rfl ?_
    refine J_goto (tgt := 168) hT dL_says_163 (by decide) ?_
    refine J_callW hY dL_says_168 mfL_type mtL_type mwL_100 (q_type hZ hSs hP0 (by decide) (by decide)) rfl (by decide) rfl rfl (Nat.le_of_ble_eq_true rfl) (Nat.le_refl _) (Nat.le_refl _) (fun r1 μ1 hq => ?_)
    obtain ⟨rfl, σ1, S1, rfl, hP1, e1, hy1⟩ := hq
    have hF1 := hF0.more rfl e1
    have hz1 := hz0.tr hy1
    show zJ _ _ _ _ (.int (nI 1) :: _) _ _ _
    refine J_iconst (v := 1) hT dL_says_171 rfl ?_
    refine J_icmp_ne (tgt := 187) hT dL_says_172 (by decide) (fun q => absurd (rfl) q) (fun _ => ?_)
    refine J_aload_n (i := 0) hT dL_says_175 rfl rfl ?_
    refine J_iload_n (i := 3) hT dL_says_176 rfl rfl ?_
    refine J_callW hY dL_says_177 mfL_type mtL_type mwL_100 (q_type hZ hSs hP1 (by decide) (letB_dig _ (Nat.lt_of_lt_of_le (Nat.mod_lt _ (by decide)) (by decide)))) rfl (by decide) rfl rfl (Nat.le_of_ble_eq_true rfl) (Nat.le_refl _) (Nat.le_refl _) (fun r1 μ1 hq => ?_)
    obtain ⟨rfl, σ2, S2, rfl, hP2, e2, hy2⟩ := hq
    have hF2 := hF1.more rfl e2
    have hz2 := hz1.tr hy2
    show zJ _ _ _ _ (.int (nI 2) :: _) _ _ _
    refine J_if_le (tgt := 187) hT dL_says_180 (by decide) (fun q => absurd q ((by decide))) (fun _ => ?_)
    refine J_iconst (v := 1) hT dL_says_183 rfl ?_
    refine J_goto (tgt := 188) hT dL_says_184 (by decide) ?_
    refine S_istore5 hT dL_says_188 rfl ?_
    refine J_iload (i := 5) hT dL_says_190 rfl ?_
    refine J_if_eq (tgt := 251) hT dL_says_192 (by decide) (fun q => absurd q ((by decide))) (fun _ => ?_)
    refine J_iload_n (i := 2) hT dL_says_195 rfl rfl ?_
    refine J_iconst (v := 2) hT dL_says_196 rfl ?_
    refine J_icmp_eq (tgt := 247) hT dL_says_197 (by decide) (fun _ => ?_) (fun q => absurd ((by decide)) q)
    refine J_iconst (v := 1) hT dL_says_247 rfl ?_
    refine J_goto (tgt := 252) hT dL_says_248 (by decide) ?_
    exact J_iret hT dL_says_252 rfl rfl (⟨rfl, σ2, S2, rfl, hP2, hF2, hz2⟩) (Nat.le_refl _) (Nat.le_refl _)
  · rcases h3 with ht | ht | ht
    · have hd : dTx Y = [108, nI (48 + Y / 5 % 5), 45, nI (48 + Y / 25 % 5)] := by simp [dTx, dTl, sgL, hk, ht]
      rw [hd]
      refine J_iload_n (i := 1) hT dL_says_0 rfl rfl ?_
      refine J_iconst (v := 5) hT dL_says_1 rfl ?_
      refine J_irem (d := 5) hT dL_says_2 rfl rfl hx (by decide) (by decide) ?_
      refine J_topil ((by rw [hk] : _ = nI 3)) ?_
      refine S_istore2 hT dL_says_3 rfl rfl ?_
      refine J_bipush (v := 48) hT dL_says_4 rfl ?_
      refine J_iload_n (i := 1) hT dL_says_6 rfl rfl ?_
      refine J_iconst (v := 5) hT dL_says_7 rfl ?_
      refine J_idiv (d := 5) hT dL_says_8 rfl rfl hx (by decide) (by decide) ?_
      refine J_iconst (v := 5) hT dL_says_9 rfl ?_
      refine J_irem (d := 5) hT dL_says_10 rfl rfl (Nat.lt_of_le_of_lt (Nat.div_le_self _ _) hx) (by decide) (by decide) ?_
      refine J_iadd hT dL_says_11 ?_
      refine J_topil (nI_add 48 _) ?_
      refine S_istore3 hT dL_says_12 rfl rfl ?_
      refine J_bipush (v := 48) hT dL_says_13 rfl ?_
      refine J_iload_n (i := 1) hT dL_says_15 rfl rfl ?_
      refine J_bipush (v := 25) hT dL_says_16 rfl ?_
      refine J_idiv (d := 25) hT dL_says_18 rfl rfl hx (by decide) (by decide) ?_
      refine J_iconst (v := 5) hT dL_says_19 rfl ?_
      refine J_irem (d := 5) hT dL_says_20 rfl rfl (Nat.lt_of_le_of_lt (Nat.div_le_self _ _) hx) (by decide) (by decide) ?_
      refine J_iadd hT dL_says_21 ?_
      refine J_topil (nI_add 48 _) ?_
      refine S_istore4 hT dL_says_22 rfl ?_
      refine J_aload_n (i := 0) hT dL_says_24 rfl rfl ?_
      refine J_callV (ci := 8) hY dL_says_25 mfX8_wipe miX8_wipe msX8_wipe kL_97 ⟨by decide, rfl⟩ h.cw.k0 (q_wipe hZ h) rfl (by decide) rfl rfl (Nat.le_of_ble_eq_true rfl) (Nat.le_refl _) (Nat.le_refl _) (fun r1 μ1 hq => ?_)
      obtain ⟨rfl, σ0, rfl, hP0, hz0⟩ := hq
      have hF0 : TXF S (zu S 67 1 0) (fun j => ([108, nI (48 + Y / 5 % 5), 45, nI (48 + Y / 25 % 5)] : List Int32).getD j 0) 0 := TXF.no
      obtain ⟨S0, hS0⟩ : ∃ x, x = zu S 67 1 0 := ⟨_, rfl⟩
      rw [← hS0] at hP0 hF0
      show zJ _ _ _ _ (.int (nI L) :: _) _ _ _
      refine J_if_lt (tgt := 35) hT dL_says_28 (by decide) (fun q => absurd q (nI_pos (by have := h.tx.2.1; omega))) (fun _ => ?_)
      refine J_iconst (v := 1) hT dL_says_31 rfl ?_
      refine J_goto (tgt := 36) hT dL_says_32 (by decide) ?_
      refine S_istore5 hT dL_says_36 rfl ?_
      refine J_iload_n (i := 2) hT dL_says_38 rfl rfl ?_
      refine J_iconst (v := 4) hT dL_says_39 rfl ?_
      refine J_icmp_ne (tgt := 136) hT dL_says_40 (by decide) (fun _ => ?_) (fun q => absurd q ((by decide)))
      refine J_iload (i := 5) hT dL_says_136 rfl ?_
      refine J_if_eq (tgt := 187) hT dL_says_138 (by decide) (fun q => absurd q ((by decide))) (fun _ => ?_)
      refine J_iload_n (i := 2) hT dL_says_141 rfl rfl ?_
      refine J_if_eq (tgt := 175) hT dL_says_142 (by decide) (fun q => absurd q ((by decide))) (fun _ => ?_)
      refine J_aload_n (i := 0) hT dL_says_145 rfl rfl ?_
      refine J_iload_n (i := 2) hT dL_says_146 rfl rfl ?_
      refine J_iconst (v := 1) hT dL_says_147 rfl ?_
      refine J_icmp_ne (tgt := 156) hT dL_says_148 (by decide) (fun _ => ?_) (fun q => absurd q ((by decide)))
      refine J_iload_n (i := 2) hT dL_says_156 rfl rfl ?_
      refine J_iconst (v := 2) hT dL_says_157 rfl ?_
      refine J_icmp_ne (tgt := 166) hT dL_says_158 (by decide) (fun _ => ?_) (fun q => absurd q ((by decide)))
      refine J_bipush (v := 108) hT dL_says_166 rfl ?_
      refine J_callW hY dL_says_168 mfL_type mtL_type mwL_100 (q_type hZ hSs hP0 (by decide) (by decide)) rfl (by decide) rfl rfl (Nat.le_of_ble_eq_true rfl) (Nat.le_refl _) (Nat.le_refl _) (fun r1 μ1 hq => ?_)
      obtain ⟨rfl, σ1, S1, rfl, hP1, e1, hy1⟩ := hq
      have hF1 := hF0.more rfl e1
      have hz1 := hz0.tr hy1
      show zJ _ _ _ _ (.int (nI 1) :: _) _ _ _
      refine J_iconst (v := 1) hT dL_says_171 rfl ?_
      refine J_icmp_ne (tgt := 187) hT dL_says_172 (by decide) (fun q => absurd (rfl) q) (fun _ => ?_)
      refine J_aload_n (i := 0) hT dL_says_175 rfl rfl ?_
      refine J_iload_n (i := 3) hT dL_says_176 rfl rfl ?_
      refine J_callW hY dL_says_177 mfL_type mtL_type mwL_100 (q_type hZ hSs hP1 (by decide) (letB_dig _ (Nat.lt_of_lt_of_le (Nat.mod_lt _ (by decide)) (by decide)))) rfl (by decide) rfl rfl (Nat.le_of_ble_eq_true rfl) (Nat.le_refl _) (Nat.le_refl _) (fun r1 μ1 hq => ?_)
      obtain ⟨rfl, σ2, S2, rfl, hP2, e2, hy2⟩ := hq
      have hF2 := hF1.more rfl e2
      have hz2 := hz1.tr hy2
      show zJ _ _ _ _ (.int (nI 2) :: _) _ _ _
      refine J_if_le (tgt := 187) hT dL_says_180 (by decide) (fun q => absurd q ((by decide))) (fun _ => ?_)
      refine J_iconst (v := 1) hT dL_says_183 rfl ?_
      refine J_goto (tgt := 188) hT dL_says_184 (by decide) ?_
      refine S_istore5 hT dL_says_188 rfl ?_
      refine J_iload (i := 5) hT dL_says_190 rfl ?_
      refine J_if_eq (tgt := 251) hT dL_says_192 (by decide) (fun q => absurd q ((by decide))) (fun _ => ?_)
      refine J_iload_n (i := 2) hT dL_says_195 rfl rfl ?_
      refine J_iconst (v := 2) hT dL_says_196 rfl ?_
      refine J_icmp_eq (tgt := 247) hT dL_says_197 (by decide) (fun q => absurd q ((by decide))) (fun _ => ?_)
      refine J_aload_n (i := 0) hT dL_says_200 rfl rfl ?_
      refine J_iload_n (i := 1) hT dL_says_201 rfl rfl ?_
      refine J_bipush (v := 125) hT dL_says_202 rfl ?_
      refine J_idiv (d := 125) hT dL_says_204 rfl rfl hx (by decide) (by decide) ?_
      refine J_iconst (v := 3) hT dL_says_205 rfl ?_
      refine J_irem (d := 3) hT dL_says_206 rfl rfl (Nat.lt_of_le_of_lt (Nat.div_le_self _ _) hx) (by decide) (by decide) ?_
      refine J_topil ((by rw [ht] : _ = nI 0)) ?_
      refine J_if_ne (tgt := 215) hT dL_says_207 (by decide) (fun q => absurd ((by decide)) q) (fun _ => ?_)
      refine J_bipush (v := 45) hT dL_says_210 rfl ?_
      refine J_goto (tgt := 232) hT dL_says_212 (by decide) ?_
      refine J_callW hY dL_says_232 mfL_type mtL_type mwL_100 (q_type hZ hSs hP2 (by decide) (by decide)) rfl (by decide) rfl rfl (Nat.le_of_ble_eq_true rfl) (Nat.le_refl _) (Nat.le_refl _) (fun r1 μ1 hq => ?_)
      obtain ⟨rfl, σ3, S3, rfl, hP3, e3, hy3⟩ := hq
      have hF3 := hF2.more rfl e3
      have hz3 := hz2.tr hy3
      show zJ _ _ _ _ (.int (nI 3) :: _) _ _ _
      refine J_if_le (tgt := 251) hT dL_says_235 (by decide) (fun q => absurd q ((by decide))) (fun _ => ?_)
      refine J_aload_n (i := 0) hT dL_says_238 rfl rfl ?_
      refine J_iload (i := 4) hT dL_says_239 rfl ?_
      refine J_callW hY dL_says_241 mfL_type mtL_type mwL_100 (q_type hZ hSs hP3 (by decide) (letB_dig _ (Nat.lt_of_lt_of_le (Nat.mod_lt _ (by decide)) (by decide)))) rfl (by decide) rfl rfl (Nat.le_of_ble_eq_true rfl) (Nat.le_refl _) (Nat.le_refl _) (fun r1 μ1 hq => ?_)
      obtain ⟨rfl, σ4, S4, rfl, hP4, e4, hy4⟩ := hq
      have hF4 := hF3.more rfl e4
      have hz4 := hz3.tr hy4
      show zJ _ _ _ _ (.int (nI 4) :: _) _ _ _
      refine J_if_le (tgt := 251) hT dL_says_244 (by decide) (fun q => absurd q ((by decide))) (fun _ => ?_)
      refine J_iconst (v := 1) hT dL_says_247 rfl ?_
      refine J_goto (tgt := 252) hT dL_says_248 (by decide) ?_
      exact J_iret hT dL_says_252 rfl rfl (⟨rfl, σ4, S4, rfl, hP4, hF4, hz4⟩) (Nat.le_refl _) (Nat.le_refl _)
    · have hd : dTx Y = [108, nI (48 + Y / 5 % 5), 43, nI (48 + Y / 25 % 5)] := by simp [dTx, dTl, sgL, hk, ht]
      rw [hd]
      refine J_iload_n (i := 1) hT dL_says_0 rfl rfl ?_
      refine J_iconst (v := 5) hT dL_says_1 rfl ?_
      refine J_irem (d := 5) hT dL_says_2 rfl rfl hx (by decide) (by decide) ?_
      refine J_topil ((by rw [hk] : _ = nI 3)) ?_
      refine S_istore2 hT dL_says_3 rfl rfl ?_
      refine J_bipush (v := 48) hT dL_says_4 rfl ?_
      refine J_iload_n (i := 1) hT dL_says_6 rfl rfl ?_
      refine J_iconst (v := 5) hT dL_says_7 rfl ?_
      refine J_idiv (d := 5) hT dL_says_8 rfl rfl hx (by decide) (by decide) ?_
      refine J_iconst (v := 5) hT dL_says_9 rfl ?_
      refine J_irem (d := 5) hT dL_says_10 rfl rfl (Nat.lt_of_le_of_lt (Nat.div_le_self _ _) hx) (by decide) (by decide) ?_
      refine J_iadd hT dL_says_11 ?_
      refine J_topil (nI_add 48 _) ?_
      refine S_istore3 hT dL_says_12 rfl rfl ?_
      refine J_bipush (v := 48) hT dL_says_13 rfl ?_
      refine J_iload_n (i := 1) hT dL_says_15 rfl rfl ?_
      refine J_bipush (v := 25) hT dL_says_16 rfl ?_
      refine J_idiv (d := 25) hT dL_says_18 rfl rfl hx (by decide) (by decide) ?_
      refine J_iconst (v := 5) hT dL_says_19 rfl ?_
      refine J_irem (d := 5) hT dL_says_20 rfl rfl (Nat.lt_of_le_of_lt (Nat.div_le_self _ _) hx) (by decide) (by decide) ?_
      refine J_iadd hT dL_says_21 ?_
      refine J_topil (nI_add 48 _) ?_
      refine S_istore4 hT dL_says_22 rfl ?_
      refine J_aload_n (i := 0) hT dL_says_24 rfl rfl ?_
      refine J_callV (ci := 8) hY dL_says_25 mfX8_wipe miX8_wipe msX8_wipe kL_97 ⟨by decide, rfl⟩ h.cw.k0 (q_wipe hZ h) rfl (by decide) rfl rfl (Nat.le_of_ble_eq_true rfl) (Nat.le_refl _) (Nat.le_refl _) (fun r1 μ1 hq => ?_)
      obtain ⟨rfl, σ0, rfl, hP0, hz0⟩ := hq
      have hF0 : TXF S (zu S 67 1 0) (fun j => ([108, nI (48 + Y / 5 % 5), 43, nI (48 + Y / 25 % 5)] : List Int32).getD j 0) 0 := TXF.no
      obtain ⟨S0, hS0⟩ : ∃ x, x = zu S 67 1 0 := ⟨_, rfl⟩
      rw [← hS0] at hP0 hF0
      show zJ _ _ _ _ (.int (nI L) :: _) _ _ _
      refine J_if_lt (tgt := 35) hT dL_says_28 (by decide) (fun q => absurd q (nI_pos (by have := h.tx.2.1; omega))) (fun _ => ?_)
      refine J_iconst (v := 1) hT dL_says_31 rfl ?_
      refine J_goto (tgt := 36) hT dL_says_32 (by decide) ?_
      refine S_istore5 hT dL_says_36 rfl ?_
      refine J_iload_n (i := 2) hT dL_says_38 rfl rfl ?_
      refine J_iconst (v := 4) hT dL_says_39 rfl ?_
      refine J_icmp_ne (tgt := 136) hT dL_says_40 (by decide) (fun _ => ?_) (fun q => absurd q ((by decide)))
      refine J_iload (i := 5) hT dL_says_136 rfl ?_
      refine J_if_eq (tgt := 187) hT dL_says_138 (by decide) (fun q => absurd q ((by decide))) (fun _ => ?_)
      refine J_iload_n (i := 2) hT dL_says_141 rfl rfl ?_
      refine J_if_eq (tgt := 175) hT dL_says_142 (by decide) (fun q => absurd q ((by decide))) (fun _ => ?_)
      refine J_aload_n (i := 0) hT dL_says_145 rfl rfl ?_
      refine J_iload_n (i := 2) hT dL_says_146 rfl rfl ?_
      refine J_iconst (v := 1) hT dL_says_147 rfl ?_
      refine J_icmp_ne (tgt := 156) hT dL_says_148 (by decide) (fun _ => ?_) (fun q => absurd q ((by decide)))
      refine J_iload_n (i := 2) hT dL_says_156 rfl rfl ?_
      refine J_iconst (v := 2) hT dL_says_157 rfl ?_
      refine J_icmp_ne (tgt := 166) hT dL_says_158 (by decide) (fun _ => ?_) (fun q => absurd q ((by decide)))
      refine J_bipush (v := 108) hT dL_says_166 rfl ?_
      refine J_callW hY dL_says_168 mfL_type mtL_type mwL_100 (q_type hZ hSs hP0 (by decide) (by decide)) rfl (by decide) rfl rfl (Nat.le_of_ble_eq_true rfl) (Nat.le_refl _) (Nat.le_refl _) (fun r1 μ1 hq => ?_)
      obtain ⟨rfl, σ1, S1, rfl, hP1, e1, hy1⟩ := hq
      have hF1 := hF0.more rfl e1
      have hz1 := hz0.tr hy1
      show zJ _ _ _ _ (.int (nI 1) :: _) _ _ _
      refine J_iconst (v := 1) hT dL_says_171 rfl ?_
      refine J_icmp_ne (tgt := 187) hT dL_says_172 (by decide) (fun q => absurd (rfl) q) (fun _ => ?_)
      refine J_aload_n (i := 0) hT dL_says_175 rfl rfl ?_
      refine J_iload_n (i := 3) hT dL_says_176 rfl rfl ?_
      refine J_callW hY dL_says_177 mfL_type mtL_type mwL_100 (q_type hZ hSs hP1 (by decide) (letB_dig _ (Nat.lt_of_lt_of_le (Nat.mod_lt _ (by decide)) (by decide)))) rfl (by decide) rfl rfl (Nat.le_of_ble_eq_true rfl) (Nat.le_refl _) (Nat.le_refl _) (fun r1 μ1 hq => ?_)
      obtain ⟨rfl, σ2, S2, rfl, hP2, e2, hy2⟩ := hq
      have hF2 := hF1.more rfl e2
      have hz2 := hz1.tr hy2
      show zJ _ _ _ _ (.int (nI 2) :: _) _ _ _
      refine J_if_le (tgt := 187) hT dL_says_180 (by decide) (fun q => absurd q ((by decide))) (fun _ => ?_)
      refine J_iconst (v := 1) hT dL_says_183 rfl ?_
      refine J_goto (tgt := 188) hT dL_says_184 (by decide) ?_
      refine S_istore5 hT dL_says_188 rfl ?_
      refine J_iload (i := 5) hT dL_says_190 rfl ?_
      refine J_if_eq (tgt := 251) hT dL_says_192 (by decide) (fun q => absurd q ((by decide))) (fun _ => ?_)
      refine J_iload_n (i := 2) hT dL_says_195 rfl rfl ?_
      refine J_iconst (v := 2) hT dL_says_196 rfl ?_
      refine J_icmp_eq (tgt := 247) hT dL_says_197 (by decide) (fun q => absurd q ((by decide))) (fun _ => ?_)
      refine J_aload_n (i := 0) hT dL_says_200 rfl rfl ?_
      refine J_iload_n (i := 1) hT dL_says_201 rfl rfl ?_
      refine J_bipush (v := 125) hT dL_says_202 rfl ?_
      refine J_idiv (d := 125) hT dL_says_204 rfl rfl hx (by decide) (by decide) ?_
      refine J_iconst (v := 3) hT dL_says_205 rfl ?_
      refine J_irem (d := 3) hT dL_says_206 rfl rfl (Nat.lt_of_le_of_lt (Nat.div_le_self _ _) hx) (by decide) (by decide) ?_
      refine J_topil ((by rw [ht] : _ = nI 1)) ?_
      refine J_if_ne (tgt := 215) hT dL_says_207 (by decide) (fun _ => ?_) (fun q => absurd q ((by decide)))
      refine J_iload_n (i := 1) hT dL_says_215 rfl rfl ?_
      refine J_bipush (v := 125) hT dL_says_216 rfl ?_
      refine J_idiv (d := 125) hT dL_says_218 rfl rfl hx (by decide) (by decide) ?_
      refine J_iconst (v := 3) hT dL_says_219 rfl ?_
      refine J_irem (d := 3) hT dL_says_220 rfl rfl (Nat.lt_of_le_of_lt (Nat.div_le_self _ _) hx) (by decide) (by decide) ?_
      refine J_topil ((by rw [ht] : _ = nI 1)) ?_
      refine J_iconst (v := 1) hT dL_says_221 rfl ?_
      refine J_icmp_ne (tgt := 230) hT dL_says_222 (by decide) (fun q => absurd ((by decide)) q) (fun _ => ?_)
      refine J_bipush (v := 43) hT dL_says_225 rfl ?_
      refine J_goto (tgt := 232) hT dL_says_227 (by decide) ?_
      refine J_callW hY dL_says_232 mfL_type mtL_type mwL_100 (q_type hZ hSs hP2 (by decide) (by decide)) rfl (by decide) rfl rfl (Nat.le_of_ble_eq_true rfl) (Nat.le_refl _) (Nat.le_refl _) (fun r1 μ1 hq => ?_)
      obtain ⟨rfl, σ3, S3, rfl, hP3, e3, hy3⟩ := hq
      have hF3 := hF2.more rfl e3
      have hz3 := hz2.tr hy3
      show zJ _ _ _ _ (.int (nI 3) :: _) _ _ _
      refine J_if_le (tgt := 251) hT dL_says_235 (by decide) (fun q => absurd q ((by decide))) (fun _ => ?_)
      refine J_aload_n (i := 0) hT dL_says_238 rfl rfl ?_
      refine J_iload (i := 4) hT dL_says_239 rfl ?_
      refine J_callW hY dL_says_241 mfL_type mtL_type mwL_100 (q_type hZ hSs hP3 (by decide) (letB_dig _ (Nat.lt_of_lt_of_le (Nat.mod_lt _ (by decide)) (by decide)))) rfl (by decide) rfl rfl (Nat.le_of_ble_eq_true rfl) (Nat.le_refl _) (Nat.le_refl _) (fun r1 μ1 hq => ?_)
      obtain ⟨rfl, σ4, S4, rfl, hP4, e4, hy4⟩ := hq
      have hF4 := hF3.more rfl e4
      have hz4 := hz3.tr hy4
      show zJ _ _ _ _ (.int (nI 4) :: _) _ _ _
      refine J_if_le (tgt := 251) hT dL_says_244 (by decide) (fun q => absurd q ((by decide))) (fun _ => ?_)
      refine J_iconst (v := 1) hT dL_says_247 rfl ?_
      refine J_goto (tgt := 252) hT dL_says_248 (by decide) ?_
      exact J_iret hT dL_says_252 rfl rfl (⟨rfl, σ4, S4, rfl, hP4, hF4, hz4⟩) (Nat.le_refl _) (Nat.le_refl _)
    · have hd : dTx Y = [108, nI (48 + Y / 5 % 5), 60, nI (48 + Y / 25 % 5)] := by simp [dTx, dTl, sgL, hk, ht]
      rw [hd]
      refine J_iload_n (i := 1) hT dL_says_0 rfl rfl ?_
      refine J_iconst (v := 5) hT dL_says_1 rfl ?_
      refine J_irem (d := 5) hT dL_says_2 rfl rfl hx (by decide) (by decide) ?_
      refine J_topil ((by rw [hk] : _ = nI 3)) ?_
      refine S_istore2 hT dL_says_3 rfl rfl ?_
      refine J_bipush (v := 48) hT dL_says_4 rfl ?_
      refine J_iload_n (i := 1) hT dL_says_6 rfl rfl ?_
      refine J_iconst (v := 5) hT dL_says_7 rfl ?_
      refine J_idiv (d := 5) hT dL_says_8 rfl rfl hx (by decide) (by decide) ?_
      refine J_iconst (v := 5) hT dL_says_9 rfl ?_
      refine J_irem (d := 5) hT dL_says_10 rfl rfl (Nat.lt_of_le_of_lt (Nat.div_le_self _ _) hx) (by decide) (by decide) ?_
      refine J_iadd hT dL_says_11 ?_
      refine J_topil (nI_add 48 _) ?_
      refine S_istore3 hT dL_says_12 rfl rfl ?_
      refine J_bipush (v := 48) hT dL_says_13 rfl ?_
      refine J_iload_n (i := 1) hT dL_says_15 rfl rfl ?_
      refine J_bipush (v := 25) hT dL_says_16 rfl ?_
      refine J_idiv (d := 25) hT dL_says_18 rfl rfl hx (by decide) (by decide) ?_
      refine J_iconst (v := 5) hT dL_says_19 rfl ?_
      refine J_irem (d := 5) hT dL_says_20 rfl rfl (Nat.lt_of_le_of_lt (Nat.div_le_self _ _) hx) (by decide) (by decide) ?_
      refine J_iadd hT dL_says_21 ?_
      refine J_topil (nI_add 48 _) ?_
      refine S_istore4 hT dL_says_22 rfl ?_
      refine J_aload_n (i := 0) hT dL_says_24 rfl rfl ?_
      refine J_callV (ci := 8) hY dL_says_25 mfX8_wipe miX8_wipe msX8_wipe kL_97 ⟨by decide, rfl⟩ h.cw.k0 (q_wipe hZ h) rfl (by decide) rfl rfl (Nat.le_of_ble_eq_true rfl) (Nat.le_refl _) (Nat.le_refl _) (fun r1 μ1 hq => ?_)
      obtain ⟨rfl, σ0, rfl, hP0, hz0⟩ := hq
      have hF0 : TXF S (zu S 67 1 0) (fun j => ([108, nI (48 + Y / 5 % 5), 60, nI (48 + Y / 25 % 5)] : List Int32).getD j 0) 0 := TXF.no
      obtain ⟨S0, hS0⟩ : ∃ x, x = zu S 67 1 0 := ⟨_, rfl⟩
      rw [← hS0] at hP0 hF0
      show zJ _ _ _ _ (.int (nI L) :: _) _ _ _
      refine J_if_lt (tgt := 35) hT dL_says_28 (by decide) (fun q => absurd q (nI_pos (by have := h.tx.2.1; omega))) (fun _ => ?_)
      refine J_iconst (v := 1) hT dL_says_31 rfl ?_
      refine J_goto (tgt := 36) hT dL_says_32 (by decide) ?_
      refine S_istore5 hT dL_says_36 rfl ?_
      refine J_iload_n (i := 2) hT dL_says_38 rfl rfl ?_
      refine J_iconst (v := 4) hT dL_says_39 rfl ?_
      refine J_icmp_ne (tgt := 136) hT dL_says_40 (by decide) (fun _ => ?_) (fun q => absurd q ((by decide)))
      refine J_iload (i := 5) hT dL_says_136 rfl ?_
      refine J_if_eq (tgt := 187) hT dL_says_138 (by decide) (fun q => absurd q ((by decide))) (fun _ => ?_)
      refine J_iload_n (i := 2) hT dL_says_141 rfl rfl ?_
      refine J_if_eq (tgt := 175) hT dL_says_142 (by decide) (fun q => absurd q ((by decide))) (fun _ => ?_)
      refine J_aload_n (i := 0) hT dL_says_145 rfl rfl ?_
      refine J_iload_n (i := 2) hT dL_says_146 rfl rfl ?_
      refine J_iconst (v := 1) hT dL_says_147 rfl ?_
      refine J_icmp_ne (tgt := 156) hT dL_says_148 (by decide) (fun _ => ?_) (fun q => absurd q ((by decide)))
      refine J_iload_n (i := 2) hT dL_says_156 rfl rfl ?_
      refine J_iconst (v := 2) hT dL_says_157 rfl ?_
      refine J_icmp_ne (tgt := 166) hT dL_says_158 (by decide) (fun _ => ?_) (fun q => absurd q ((by decide)))
      refine J_bipush (v := 108) hT dL_says_166 rfl ?_
      refine J_callW hY dL_says_168 mfL_type mtL_type mwL_100 (q_type hZ hSs hP0 (by decide) (by decide)) rfl (by decide) rfl rfl (Nat.le_of_ble_eq_true rfl) (Nat.le_refl _) (Nat.le_refl _) (fun r1 μ1 hq => ?_)
      obtain ⟨rfl, σ1, S1, rfl, hP1, e1, hy1⟩ := hq
      have hF1 := hF0.more rfl e1
      have hz1 := hz0.tr hy1
      show zJ _ _ _ _ (.int (nI 1) :: _) _ _ _
      refine J_iconst (v := 1) hT dL_says_171 rfl ?_
      refine J_icmp_ne (tgt := 187) hT dL_says_172 (by decide) (fun q => absurd (rfl) q) (fun _ => ?_)
      refine J_aload_n (i := 0) hT dL_says_175 rfl rfl ?_
      refine J_iload_n (i := 3) hT dL_says_176 rfl rfl ?_
      refine J_callW hY dL_says_177 mfL_type mtL_type mwL_100 (q_type hZ hSs hP1 (by decide) (letB_dig _ (Nat.lt_of_lt_of_le (Nat.mod_lt _ (by decide)) (by decide)))) rfl (by decide) rfl rfl (Nat.le_of_ble_eq_true rfl) (Nat.le_refl _) (Nat.le_refl _) (fun r1 μ1 hq => ?_)
      obtain ⟨rfl, σ2, S2, rfl, hP2, e2, hy2⟩ := hq
      have hF2 := hF1.more rfl e2
      have hz2 := hz1.tr hy2
      show zJ _ _ _ _ (.int (nI 2) :: _) _ _ _
      refine J_if_le (tgt := 187) hT dL_says_180 (by decide) (fun q => absurd q ((by decide))) (fun _ => ?_)
      refine J_iconst (v := 1) hT dL_says_183 rfl ?_
      refine J_goto (tgt := 188) hT dL_says_184 (by decide) ?_
      refine S_istore5 hT dL_says_188 rfl ?_
      refine J_iload (i := 5) hT dL_says_190 rfl ?_
      refine J_if_eq (tgt := 251) hT dL_says_192 (by decide) (fun q => absurd q ((by decide))) (fun _ => ?_)
      refine J_iload_n (i := 2) hT dL_says_195 rfl rfl ?_
      refine J_iconst (v := 2) hT dL_says_196 rfl ?_
      refine J_icmp_eq (tgt := 247) hT dL_says_197 (by decide) (fun q => absurd q ((by decide))) (fun _ => ?_)
      refine J_aload_n (i := 0) hT dL_says_200 rfl rfl ?_
      refine J_iload_n (i := 1) hT dL_says_201 rfl rfl ?_
      refine J_bipush (v := 125) hT dL_says_202 rfl ?_
      refine J_idiv (d := 125) hT dL_says_204 rfl rfl hx (by decide) (by decide) ?_
      refine J_iconst (v := 3) hT dL_says_205 rfl ?_
      refine J_irem (d := 3) hT dL_says_206 rfl rfl (Nat.lt_of_le_of_lt (Nat.div_le_self _ _) hx) (by decide) (by decide) ?_
      refine J_topil ((by rw [ht] : _ = nI 2)) ?_
      refine J_if_ne (tgt := 215) hT dL_says_207 (by decide) (fun _ => ?_) (fun q => absurd q ((by decide)))
      refine J_iload_n (i := 1) hT dL_says_215 rfl rfl ?_
      refine J_bipush (v := 125) hT dL_says_216 rfl ?_
      refine J_idiv (d := 125) hT dL_says_218 rfl rfl hx (by decide) (by decide) ?_
      refine J_iconst (v := 3) hT dL_says_219 rfl ?_
      refine J_irem (d := 3) hT dL_says_220 rfl rfl (Nat.lt_of_le_of_lt (Nat.div_le_self _ _) hx) (by decide) (by decide) ?_
      refine J_topil ((by rw [ht] : _ = nI 2)) ?_
      refine J_iconst (v := 1) hT dL_says_221 rfl ?_
      refine J_icmp_ne (tgt := 230) hT dL_says_222 (by decide) (fun _ => ?_) (fun q => absurd q ((by decide)))
      refine J_bipush (v := 60) hT dL_says_230 rfl ?_
      refine J_callW hY dL_says_232 mfL_type mtL_type mwL_100 (q_type hZ hSs hP2 (by decide) (by decide)) rfl (by decide) rfl rfl (Nat.le_of_ble_eq_true rfl) (Nat.le_refl _) (Nat.le_refl _) (fun r1 μ1 hq => ?_)
      obtain ⟨rfl, σ3, S3, rfl, hP3, e3, hy3⟩ := hq
      have hF3 := hF2.more rfl e3
      have hz3 := hz2.tr hy3
      show zJ _ _ _ _ (.int (nI 3) :: _) _ _ _
      refine J_if_le (tgt := 251) hT dL_says_235 (by decide) (fun q => absurd q ((by decide))) (fun _ => ?_)
      refine J_aload_n (i := 0) hT dL_says_238 rfl rfl ?_
      refine J_iload (i := 4) hT dL_says_239 rfl ?_
      refine J_callW hY dL_says_241 mfL_type mtL_type mwL_100 (q_type hZ hSs hP3 (by decide) (letB_dig _ (Nat.lt_of_lt_of_le (Nat.mod_lt _ (by decide)) (by decide)))) rfl (by decide) rfl rfl (Nat.le_of_ble_eq_true rfl) (Nat.le_refl _) (Nat.le_refl _) (fun r1 μ1 hq => ?_)
      obtain ⟨rfl, σ4, S4, rfl, hP4, e4, hy4⟩ := hq
      have hF4 := hF3.more rfl e4
      have hz4 := hz3.tr hy4
      show zJ _ _ _ _ (.int (nI 4) :: _) _ _ _
      refine J_if_le (tgt := 251) hT dL_says_244 (by decide) (fun q => absurd q ((by decide))) (fun _ => ?_)
      refine J_iconst (v := 1) hT dL_says_247 rfl ?_
      refine J_goto (tgt := 252) hT dL_says_248 (by decide) ?_
      exact J_iret hT dL_says_252 rfl rfl (⟨rfl, σ4, S4, rfl, hP4, hF4, hz4⟩) (Nat.le_refl _) (Nat.le_refl _)
  · skip
    have hd : dTx Y = [109, 40, 99, nI (48 + Y / 5 % 5), 44, 108, nI (48 + Y / 25 % 5), 41] := by simp [dTx, dTl, sgL, hk]
    rw [hd]
    refine J_iload_n (i := 1) hT dL_says_0 rfl rfl ?_
    refine J_iconst (v := 5) hT dL_says_1 rfl ?_
    refine J_irem (d := 5) hT dL_says_2 rfl rfl hx (by decide) (by decide) ?_
    refine J_topil ((by rw [hk] : _ = nI 4)) ?_
    refine S_istore2 hT dL_says_3 rfl rfl ?_
    refine J_bipush (v := 48) hT dL_says_4 rfl ?_
    refine J_iload_n (i := 1) hT dL_says_6 rfl rfl ?_
    refine J_iconst (v := 5) hT dL_says_7 rfl ?_
    refine J_idiv (d := 5) hT dL_says_8 rfl rfl hx (by decide) (by decide) ?_
    refine J_iconst (v := 5) hT dL_says_9 rfl ?_
    refine J_irem (d := 5) hT dL_says_10 rfl rfl (Nat.lt_of_le_of_lt (Nat.div_le_self _ _) hx) (by decide) (by decide) ?_
    refine J_iadd hT dL_says_11 ?_
    refine J_topil (nI_add 48 _) ?_
    refine S_istore3 hT dL_says_12 rfl rfl ?_
    refine J_bipush (v := 48) hT dL_says_13 rfl ?_
    refine J_iload_n (i := 1) hT dL_says_15 rfl rfl ?_
    refine J_bipush (v := 25) hT dL_says_16 rfl ?_
    refine J_idiv (d := 25) hT dL_says_18 rfl rfl hx (by decide) (by decide) ?_
    refine J_iconst (v := 5) hT dL_says_19 rfl ?_
    refine J_irem (d := 5) hT dL_says_20 rfl rfl (Nat.lt_of_le_of_lt (Nat.div_le_self _ _) hx) (by decide) (by decide) ?_
    refine J_iadd hT dL_says_21 ?_
    refine J_topil (nI_add 48 _) ?_
    refine S_istore4 hT dL_says_22 rfl ?_
    refine J_aload_n (i := 0) hT dL_says_24 rfl rfl ?_
    refine J_callV (ci := 8) hY dL_says_25 mfX8_wipe miX8_wipe msX8_wipe kL_97 ⟨by decide, rfl⟩ h.cw.k0 (q_wipe hZ h) rfl (by decide) rfl rfl (Nat.le_of_ble_eq_true rfl) (Nat.le_refl _) (Nat.le_refl _) (fun r1 μ1 hq => ?_)
    obtain ⟨rfl, σ0, rfl, hP0, hz0⟩ := hq
    have hF0 : TXF S (zu S 67 1 0) (fun j => ([109, 40, 99, nI (48 + Y / 5 % 5), 44, 108, nI (48 + Y / 25 % 5), 41] : List Int32).getD j 0) 0 := TXF.no
    obtain ⟨S0, hS0⟩ : ∃ x, x = zu S 67 1 0 := ⟨_, rfl⟩
    rw [← hS0] at hP0 hF0
    show zJ _ _ _ _ (.int (nI L) :: _) _ _ _
    refine J_if_lt (tgt := 35) hT dL_says_28 (by decide) (fun q => absurd q (nI_pos (by have := h.tx.2.1; omega))) (fun _ => ?_)
    refine J_iconst (v := 1) hT dL_says_31 rfl ?_
    refine J_goto (tgt := 36) hT dL_says_32 (by decide) ?_
    refine S_istore5 hT dL_says_36 rfl ?_
    refine J_iload_n (i := 2) hT dL_says_38 rfl rfl ?_
    refine J_iconst (v := 4) hT dL_says_39 rfl ?_
    refine J_icmp_ne (tgt := 136) hT dL_says_40 (by decide) (fun q => absurd ((by decide)) q) (fun _ => ?_)
    refine J_iload (i := 5) hT dL_says_43 rfl ?_
    refine J_if_eq (tgt := 134) hT dL_says_45 (by decide) (fun q => absurd q ((by decide))) (fun _ => ?_)
    refine J_aload_n (i := 0) hT dL_says_48 rfl rfl ?_
    refine J_bipush (v := 109) hT dL_says_49 rfl ?_
    refine J_callW hY dL_says_51 mfL_type mtL_type mwL_100 (q_type hZ hSs hP0 (by decide) (by decide)) rfl (by decide) rfl rfl (Nat.le_of_ble_eq_true rfl) (Nat.le_refl _) (Nat.le_refl _) (fun r1 μ1 hq => ?_)
    obtain ⟨rfl, σ1, S1, rfl, hP1, e1, hy1⟩ := hq
    have hF1 := hF0.more rfl e1
    have hz1 := hz0.tr hy1
    show zJ _ _ _ _ (.int (nI 1) :: _) _ _ _
    refine J_iconst (v := 1) hT dL_says_54 rfl ?_
    refine J_icmp_ne (tgt := 134) hT dL_says_55 (by decide) (fun q => absurd (rfl) q) (fun _ => ?_)
    refine J_aload_n (i := 0) hT dL_says_58 rfl rfl ?_
    refine J_bipush (v := 40) hT dL_says_59 rfl ?_
    refine J_callW hY dL_says_61 mfL_type mtL_type mwL_100 (q_type hZ hSs hP1 (by decide) (by decide)) rfl (by decide) rfl rfl (Nat.le_of_ble_eq_true rfl) (Nat.le_refl _) (Nat.le_refl _) (fun r1 μ1 hq => ?_)
    obtain ⟨rfl, σ2, S2, rfl, hP2, e2, hy2⟩ := hq
    have hF2 := hF1.more rfl e2
    have hz2 := hz1.tr hy2
    show zJ _ _ _ _ (.int (nI 2) :: _) _ _ _
    refine J_iconst (v := 2) hT dL_says_64 rfl ?_
    refine J_icmp_ne (tgt := 134) hT dL_says_65 (by decide) (fun q => absurd (rfl) q) (fun _ => ?_)
    refine J_aload_n (i := 0) hT dL_says_68 rfl rfl ?_
    refine J_bipush (v := 99) hT dL_says_69 rfl ?_
    refine J_callW hY dL_says_71 mfL_type mtL_type mwL_100 (q_type hZ hSs hP2 (by decide) (by decide)) rfl (by decide) rfl rfl (Nat.le_of_ble_eq_true rfl) (Nat.le_refl _) (Nat.le_refl _) (fun r1 μ1 hq => ?_)
    obtain ⟨rfl, σ3, S3, rfl, hP3, e3, hy3⟩ := hq
    have hF3 := hF2.more rfl e3
    have hz3 := hz2.tr hy3
    show zJ _ _ _ _ (.int (nI 3) :: _) _ _ _
    refine J_iconst (v := 3) hT dL_says_74 rfl ?_
    refine J_icmp_ne (tgt := 134) hT dL_says_75 (by decide) (fun q => absurd (rfl) q) (fun _ => ?_)
    refine J_aload_n (i := 0) hT dL_says_78 rfl rfl ?_
    refine J_iload_n (i := 3) hT dL_says_79 rfl rfl ?_
    refine J_callW hY dL_says_80 mfL_type mtL_type mwL_100 (q_type hZ hSs hP3 (by decide) (letB_dig _ (Nat.lt_of_lt_of_le (Nat.mod_lt _ (by decide)) (by decide)))) rfl (by decide) rfl rfl (Nat.le_of_ble_eq_true rfl) (Nat.le_refl _) (Nat.le_refl _) (fun r1 μ1 hq => ?_)
    obtain ⟨rfl, σ4, S4, rfl, hP4, e4, hy4⟩ := hq
    have hF4 := hF3.more rfl e4
    have hz4 := hz3.tr hy4
    show zJ _ _ _ _ (.int (nI 4) :: _) _ _ _
    refine J_iconst (v := 4) hT dL_says_83 rfl ?_
    refine J_icmp_ne (tgt := 134) hT dL_says_84 (by decide) (fun q => absurd (rfl) q) (fun _ => ?_)
    refine J_aload_n (i := 0) hT dL_says_87 rfl rfl ?_
    refine J_bipush (v := 44) hT dL_says_88 rfl ?_
    refine J_callW hY dL_says_90 mfL_type mtL_type mwL_100 (q_type hZ hSs hP4 (by decide) (by decide)) rfl (by decide) rfl rfl (Nat.le_of_ble_eq_true rfl) (Nat.le_refl _) (Nat.le_refl _) (fun r1 μ1 hq => ?_)
    obtain ⟨rfl, σ5, S5, rfl, hP5, e5, hy5⟩ := hq
    have hF5 := hF4.more rfl e5
    have hz5 := hz4.tr hy5
    show zJ _ _ _ _ (.int (nI 5) :: _) _ _ _
    refine J_iconst (v := 5) hT dL_says_93 rfl ?_
    refine J_icmp_ne (tgt := 134) hT dL_says_94 (by decide) (fun q => absurd (rfl) q) (fun _ => ?_)
    refine J_aload_n (i := 0) hT dL_says_97 rfl rfl ?_
    refine J_bipush (v := 108) hT dL_says_98 rfl ?_
    refine J_callW hY dL_says_100 mfL_type mtL_type mwL_100 (q_type hZ hSs hP5 (by decide) (by decide)) rfl (by decide) rfl rfl (Nat.le_of_ble_eq_true rfl) (Nat.le_refl _) (Nat.le_refl _) (fun r1 μ1 hq => ?_)
    obtain ⟨rfl, σ6, S6, rfl, hP6, e6, hy6⟩ := hq
    have hF6 := hF5.more rfl e6
    have hz6 := hz5.tr hy6
    show zJ _ _ _ _ (.int (nI 6) :: _) _ _ _
    refine J_bipush (v := 6) hT dL_says_103 rfl ?_
    refine J_icmp_ne (tgt := 134) hT dL_says_105 (by decide) (fun q => absurd (rfl) q) (fun _ => ?_)
    refine J_aload_n (i := 0) hT dL_says_108 rfl rfl ?_
    refine J_iload (i := 4) hT dL_says_109 rfl ?_
    refine J_callW hY dL_says_111 mfL_type mtL_type mwL_100 (q_type hZ hSs hP6 (by decide) (letB_dig _ (Nat.lt_of_lt_of_le (Nat.mod_lt _ (by decide)) (by decide)))) rfl (by decide) rfl rfl (Nat.le_of_ble_eq_true rfl) (Nat.le_refl _) (Nat.le_refl _) (fun r1 μ1 hq => ?_)
    obtain ⟨rfl, σ7, S7, rfl, hP7, e7, hy7⟩ := hq
    have hF7 := hF6.more rfl e7
    have hz7 := hz6.tr hy7
    show zJ _ _ _ _ (.int (nI 7) :: _) _ _ _
    refine J_bipush (v := 7) hT dL_says_114 rfl ?_
    refine J_icmp_ne (tgt := 134) hT dL_says_116 (by decide) (fun q => absurd (rfl) q) (fun _ => ?_)
    refine J_aload_n (i := 0) hT dL_says_119 rfl rfl ?_
    refine J_bipush (v := 41) hT dL_says_120 rfl ?_
    refine J_callW hY dL_says_122 mfL_type mtL_type mwL_100 (q_type hZ hSs hP7 (by decide) (by decide)) rfl (by decide) rfl rfl (Nat.le_of_ble_eq_true rfl) (Nat.le_refl _) (Nat.le_refl _) (fun r1 μ1 hq => ?_)
    obtain ⟨rfl, σ8, S8, rfl, hP8, e8, hy8⟩ := hq
    have hF8 := hF7.more rfl e8
    have hz8 := hz7.tr hy8
    show zJ _ _ _ _ (.int (nI 8) :: _) _ _ _
    refine J_bipush (v := 8) hT dL_says_125 rfl ?_
    refine J_icmp_ne (tgt := 134) hT dL_says_127 (by decide) (fun q => absurd (rfl) q) (fun _ => ?_)
    refine J_iconst (v := 1) hT dL_says_130 rfl ?_
    refine J_goto (tgt := 135) hT dL_says_131 (by decide) ?_
    exact J_iret hT dL_says_135 rfl rfl (⟨rfl, σ8, S8, rfl, hP8, hF8, hz8⟩) (Nat.le_refl _) (Nat.le_refl _)

