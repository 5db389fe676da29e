def KI (S : zS2) : Prop := RI S ∧ XI S ∧ DX S
theorem blkF_v : ∀ (r : Nat) (S : zS2) (late : Int32), zsv S (blkF r S late).1 := by
  intro r
  induction r with
  | zero => intro S late; exact zsv_refl S
  | succ r ih =>
    intro S late
    by_cases q : maskF S = 0
    · rw [blkF_0 late q]; dsimp only; exact roundF_v S
    · rw [blkF_1 late q]; dsimp only; exact zsv_trans (roundF_v S) (ih _ _)
theorem setF_v : ∀ (f : Nat) (S : zS2), zsv S (setF f S).1 := by
  intro f
  induction f with
  | zero => intro S; exact zsv_refl S
  | succ f ih =>
    intro S
    rw [setF]
    by_cases q : (blkF 40 S 0).2.2.1 = false
    · rw [if_pos q]; dsimp only; exact blkF_v 40 S 0
    · rw [if_neg q]; dsimp only; exact zsv_trans (zsv_trans (blkF_v 40 S 0) (cutF_v _ _)) (ih _)
theorem KI.set {S : zS2} (h : KI S) (f : Nat) : KI (setF f S).1 :=
  ⟨setF_ok f S h.1, XI.set f h.1 h.2.1, h.2.2.mv (fun j => setF_v f S 76 j (by decide) (by decide) (by decide) (by decide) (by decide) (by decide) (by decide) (by decide) (by decide)) (fun j => setF_v f S 79 j (by decide) (by decide) (by decide) (by decide) (by decide) (by decide) (by decide) (by decide) (by decide))⟩
theorem KI.now {S : zS2} (h : KI S) : KI (nowF S) := ⟨h.1.nw, h.2.1.nw, h.2.2.mv (fun j => zu_ne _ _ _ _ (by decide) j) (fun j => zu_ne _ _ _ _ (by decide) j)⟩
theorem KI.tick {S : zS2} (h : KI S) (n : Nat) : KI (tickF S n).1 := by
  induction n with
  | zero => exact h
  | succ n ih => rw [tickF]; exact ih.now.set 6
theorem QS.tick {S : zS2} (hk : KI S) (h : QS S) (n : Nat) : QS (tickF S n).1 := by
  induction n with
  | zero => exact h
  | succ n ih =>
    rw [tickF]
    have := (hk.tick n).now
    exact QS.set this.1 this.2.1

set_option maxRecDepth 100000 in
set_option maxHeartbeats 4000000 in
theorem c_X6_tell {l : Launch} {Z : zZ} (hZ : zSt l Z) (hO : zOps Z) {μ : zMem} {σ : zS2} {π : zP2} {g : zG2} {t : Nat} (ht : ta t) {S : zS2} (hM : mo t μ σ π S) (hK : KI S) {sp st : Nat} (hsp : zSp μ σ π sp S st) (hv : stepV S st) (h10 : S 98 st ≠ 10) (hn : S 98 st = 0 → stN S st ≤ 30) (hx : stX S st) (hRc : RI (chgF S st)) (hnw : 0 ≤ S 67 34) : zCt l Z mX6_tell 5 0 0 [.ref t, .ref sp] (zA4 μ σ π g) (fun r μ' => r = some (.int (nI (doF S st).2)) ∧ zE0 t μ σ π g (doF S st).1 μ') := by
  refine zCt_of hZ mpX6_tell (Nat.le_of_ble_eq_true rfl) (L := [some (.ref t), some (.ref sp), none, none]) rfl (fun τ hY => ?_)
  have hT := hY.1
  have hB := hM.1.tb
  obtain ⟨hio, hspn, hk, hk0, hk1, he2, he3, he5, hfm⟩ := id hsp
  have hset : doF S st = setF 6 (chgF S st) := by unfold doF; rw [if_neg h10]
  have hXc := hK.2.1.chg hv hx hnw h10
  have h0 : ¬ σ sp 0 = 10 := by rw [hk0]; exact h10
  rw [hset]
  refine J_aload_n (i := 1) hT dX6_tell_0 rfl rfl ?_
  refine R_getI hT fX6_91 rfl dX6_tell_1 hk ?_
  refine J_bipush (v := 10) hT dX6_tell_4 rfl ?_
  refine J_icmp_eq (tgt := 19) hT dX6_tell_6 (by decide) (fun q => absurd q (h0)) (fun _ => ?_)
  refine J_aload_n (i := 0) hT dX6_tell_9 rfl rfl ?_
  refine J_aload_n (i := 1) hT dX6_tell_10 rfl rfl ?_
  refine J_callV (ci := 6) hY dX6_tell_11 mfX6_change miX6_change msX6_change kX6_96 ⟨by decide, rfl⟩ hB.k (c_X6_change hZ ht hM hK.1 hK.2.1 hsp hv h10 hn hx hRc) rfl (by decide) rfl rfl (Nat.le_of_ble_eq_true rfl) (Nat.le_refl _) (Nat.le_refl _) (fun r1 μ1 hq1 => ?_)
  obtain ⟨rfl, σ1, π1, rfl, hM1, hf1, hp1⟩ := hq1
  refine J_aload_n (i := 0) hT dX6_tell_14 rfl rfl ?_
  refine J_callV (ci := 6) hY dX6_tell_15 mfX6_settle miX6_settle msX6_settle kX6_100 ⟨by decide, rfl⟩ hB.k (c_X6_settle hZ hO ht hM1 hRc hXc) rfl (by decide) rfl rfl (Nat.le_of_ble_eq_true rfl) (Nat.le_refl _) (Nat.le_refl _) (fun r2 μ2 hq2 => ?_)
  obtain ⟨rfl, hq3⟩ := hq2
  show zJ _ _ _ _ (.int _ :: _) _ _ _
  exact J_iret hT dX6_tell_18 rfl rfl (⟨rfl, hq3.e0.mv hf1 hp1⟩) (Nat.le_refl _) (Nat.le_refl _)

set_option maxRecDepth 100000 in
set_option maxHeartbeats 800000 in
theorem c_X6_tellT {l : Launch} {Z : zZ} (hZ : zSt l Z) (hO : zOps Z) {μ : zMem} {σ : zS2} {π : zP2} {g : zG2} {t : Nat} (ht : ta t) {S : zS2} (hM : mo t μ σ π S) (hK : KI S) (hQ : QS S) {sp n E : Nat} (hk : zK μ sp = 5 + 8) (hio : Io sp) (h0 : σ sp 0 = 10) (h1 : σ sp 1 = nI n) (hE : S 67 34 = nI E) (hEn : E + n ≤ 2000) : zCt l Z mX6_tell 5 0 0 [.ref t, .ref sp] (zA4 μ σ π g) (fun r μ' => r = some (.int (nI (tickF S n).2)) ∧ zE1 t μ σ π g (tickF S n).1 μ') := by
  refine zCt_of hZ mpX6_tell (Nat.le_of_ble_eq_true rfl) (L := [some (.ref t), some (.ref sp), none, none]) rfl (fun τ hY => ?_)
  have hT := hY.1
  have hB := hM.1.tb
  have hso := hio.out ht
  obtain ⟨N, hN⟩ : ∃ N, N = (tickF S n).2 := ⟨_, rfl⟩
  obtain ⟨SF, hSF⟩ : ∃ x, x = (tickF S n).1 := ⟨_, rfl⟩
  rw [← hN, ← hSF]
  have loop : ∀ d i, i + d = n → ∀ σ1 X m, X = (tickF S i).1 → m = (tickF S i).2 → mo t μ σ1 π X → zfT t σ σ1 → zJ τ (zFn τ (fun r μ' => r = some (.int (nI N)) ∧ zE1 t μ σ π g SF μ') 0 0) 23 [some (.ref t), some (.ref sp), some (.int (nI m)), some (.int (nI i))] [] (zA4 μ σ1 π g) 0 0 := by
    intro d
    induction d with
    | zero =>
      intro i hi
      have : i = n := by omega
      subst this
      intro σ1 X m hX hm hM1 hf1
      rw [← hSF] at hX
      rw [← hN] at hm
      subst hX; subst hm
      have h1' : σ1 sp 1 = nI i := by rw [hf1.io ht hio]; exact h1
      refine J_iload_n (i := 3) hT dX6_tell_23 rfl rfl ?_
      refine J_aload_n (i := 1) hT dX6_tell_24 rfl rfl ?_
      refine R_getI hT fX6_104 rfl dX6_tell_25 hk ?_
      refine J_topil (h1') ?_
      refine J_icmp_ge (tgt := 65) hT dX6_tell_28 (by decide) (fun _ => ?_) (fun q => absurd (nI_le (a := i) (b := i) (Nat.le_refl _) (by omega)) q)
      refine J_iload_n (i := 2) hT dX6_tell_65 rfl rfl ?_
      exact J_iret hT dX6_tell_66 rfl rfl (⟨rfl, σ1, rfl, hM1, hf1⟩) (Nat.le_refl _) (Nat.le_refl _)
    | succ d ih =>
      intro i hi
      intro σ1 X m hX hm hM1 hf1
      have h1' : σ1 sp 1 = nI n := by rw [hf1.io ht hio]; exact h1
      have hB1 := hM1.1.tb
      have hKX : KI X := by rw [hX]; exact hK.tick i
      have hQX : QS X := by rw [hX]; exact hQ.tick hK i
      have hEX : X 67 34 = nI (E + i) := by rw [hX]; exact tickF_now S hE i
      have hM2 := hM1.uw ht (f := 7) (j := 34) (v := X 67 34 + 1) (Or.inl ⟨rfl, rfl⟩)
      have hKN := hKX.now
      obtain ⟨Y, hYn⟩ : ∃ Y, Y = nowF X := ⟨_, rfl⟩
      rw [show zu X 67 34 (X 67 34 + 1) = nowF X from rfl, ← hYn] at hM2
      rw [← hYn] at hKN
      have hs1 : (tickF S (i + 1)).1 = (setF 6 Y).1 := by rw [tickF, hYn, hX]
      have hs2 : (tickF S (i + 1)).2 = m + (setF 6 Y).2 := by rw [tickF, hYn, hX, hm]
      have hquiet : dueB Y 5 = false → setF 6 Y = (Y, 1) := fun q => by
        rw [hYn] at q ⊢
        exact tick_qs hEX (by omega) hKX.2.1 hQX q
      refine J_iload_n (i := 3) hT dX6_tell_23 rfl rfl ?_
      refine J_aload_n (i := 1) hT dX6_tell_24 rfl rfl ?_
      refine R_getI hT fX6_104 rfl dX6_tell_25 hk ?_
      refine J_topil (h1') ?_
      refine J_icmp_ge (tgt := 65) hT dX6_tell_28 (by decide) (fun q => absurd q (Int32.not_le.mpr (nI_lt (a := i) (b := n) (by omega) (by omega)))) (fun _ => ?_)
      refine J_aload_n (i := 0) hT dX6_tell_31 rfl rfl ?_
      refine J_dup hT dX6_tell_32 rfl ?_
      refine R_getI hT fX6_49 rfl dX6_tell_33 hB1.k ?_
      refine J_topil (hM1.1.w) ?_
      refine J_iconst (v := 1) hT dX6_tell_36 rfl ?_
      refine J_iadd hT dX6_tell_37 ?_
      refine R_putI hT fX6_49 rfl rfl dX6_tell_38 hB1.k ?_
      refine J_iload_n (i := 2) hT dX6_tell_41 rfl rfl ?_
      refine J_aload_n (i := 0) hT dX6_tell_42 rfl rfl ?_
      refine R_callV1 (ci := 6) hY dX6_tell_43 mfX6_isStartDue miX6_isStartDue msX6_isStartDue kX6_107 ⟨by decide, rfl⟩ hB1.k (c_X6_isStartDue hZ ht hM2) rfl (by decide) rfl rfl (Nat.le_of_ble_eq_true rfl) (Nat.le_refl _) (Nat.le_refl _) ?_
      refine J_if_eq (tgt := 56) hT dX6_tell_46 (by decide) (fun q46 => ?_) (fun q46 => ?_)
      · refine J_iconst (v := 1) hT dX6_tell_56 rfl ?_
        first
          | (refine J_topil (y := nI 1) rfl ?_
             have hq5 := hquiet (zbi_0.mp q46)
             refine J_iadd hT dX6_tell_57 ?_
             refine J_topil (nI_ad _ _) ?_
             refine S_istore2 hT dX6_tell_58 rfl rfl ?_
             refine S_iinc3 hT dX6_tell_59 (nI_inc _) rfl ?_
             refine J_goto (tgt := 23) hT dX6_tell_62 (by decide) ?_
             exact ih (i + 1) (by omega) _ Y (m + 1) (by rw [hs1, hq5]) (by rw [hs2, hq5]) hM2 (hf1.tr (zfT_u (Or.inl rfl))))
          | (refine J_iadd hT dX6_tell_57 ?_
             refine J_topil (nI_ad _ _) ?_
             refine S_istore2 hT dX6_tell_58 rfl rfl ?_
             refine S_iinc3 hT dX6_tell_59 (nI_inc _) rfl ?_
             refine J_goto (tgt := 23) hT dX6_tell_62 (by decide) ?_
             exact ih (i + 1) (by omega) _ (setF 6 Y).1 (m + (setF 6 Y).2) hs1.symm hs2.symm hM3 (hf1.tr ((zfT_u (Or.inl rfl)).tr hf3)))
      · refine J_aload_n (i := 0) hT dX6_tell_49 rfl rfl ?_
        refine J_callV (ci := 6) hY dX6_tell_50 mfX6_settle miX6_settle msX6_settle kX6_100 ⟨by decide, rfl⟩ hB1.k (c_X6_settle hZ hO ht hM2 hKN.1 hKN.2.1) rfl (by decide) rfl rfl (Nat.le_of_ble_eq_true rfl) (Nat.le_refl _) (Nat.le_refl _) (fun r2 μ2 hq2 => ?_)
        obtain ⟨rfl, σ2, rfl, hM3, hf3⟩ := hq2
        show zJ _ _ _ _ (.int _ :: _) _ _ _
        refine J_goto (tgt := 57) hT dX6_tell_53 (by decide) ?_
        first
          | (refine J_topil (y := nI 1) rfl ?_
             have hq5 := hquiet (zbi_0.mp q46)
             refine J_iadd hT dX6_tell_57 ?_
             refine J_topil (nI_ad _ _) ?_
             refine S_istore2 hT dX6_tell_58 rfl rfl ?_
             refine S_iinc3 hT dX6_tell_59 (nI_inc _) rfl ?_
             refine J_goto (tgt := 23) hT dX6_tell_62 (by decide) ?_
             exact ih (i + 1) (by omega) _ Y (m + 1) (by rw [hs1, hq5]) (by rw [hs2, hq5]) hM2 (hf1.tr (zfT_u (Or.inl rfl))))
          | (refine J_iadd hT dX6_tell_57 ?_
             refine J_topil (nI_ad _ _) ?_
             refine S_istore2 hT dX6_tell_58 rfl rfl ?_
             refine S_iinc3 hT dX6_tell_59 (nI_inc _) rfl ?_
             refine J_goto (tgt := 23) hT dX6_tell_62 (by decide) ?_
             exact ih (i + 1) (by omega) _ (setF 6 Y).1 (m + (setF 6 Y).2) hs1.symm hs2.symm hM3 (hf1.tr ((zfT_u (Or.inl rfl)).tr hf3)))
  refine J_aload_n (i := 1) hT dX6_tell_0 rfl rfl ?_
  refine R_getI hT fX6_91 rfl dX6_tell_1 hk ?_
  refine J_topil (h0) ?_
  refine J_bipush (v := 10) hT dX6_tell_4 rfl ?_
  refine J_icmp_eq (tgt := 19) hT dX6_tell_6 (by decide) (fun _ => ?_) (fun q => absurd (rfl) q)
  refine J_iconst (v := 0) hT dX6_tell_19 rfl ?_
  refine S_istore2 hT dX6_tell_20 rfl rfl ?_
  refine J_iconst (v := 0) hT dX6_tell_21 rfl ?_
  refine S_istore3 hT dX6_tell_22 rfl rfl ?_
  exact loop n 0 (by omega) σ S 0 rfl rfl hM zfT.rf


