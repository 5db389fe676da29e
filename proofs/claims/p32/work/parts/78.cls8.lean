def opsN (j : Nat) : Nat := if j < 4 then 0 else if j = 4 then 1 else if j = 13 then 3 else 2
/-- the table of how many operands, which the class's own start has made -/
def zOps (Z : zZ) : Prop := ∃ a0, va_Z "Daemonsheet" "OPERANDS" "[I" (.ref a0) (zA Z) Z.1 Z.1.heap ∧ va_T .int a0 14 (fun j => .int (nI (opsN j))) (zA Z) Z.1 Z.1.heap
theorem fl6_232 : Cond.fieldLinkNest RX6 232 "Daemonsheet" "OPERANDS" "[I" "Daemonsheet" ∈ lw_tbl := (zc2 (List.mem_of_getElem? (i := 207) rfl))
section ZOP
variable {l : Launch} {Z : zZ} {τ : zT} {M : zM} {kk mc ms : Nat} {F : State → Prop} {pc : Nat} {L : List (Option Value)} {st : List Value} {μ : zMem} {c k : Nat}
theorem zOps.at (hY : zCy l Z τ M kk mc ms) (hO : zOps Z) : ∃ a0, va_Z "Daemonsheet" "OPERANDS" "[I" (.ref a0) (zA τ.2.2.2.2.2.2.2.2.2.2.1) τ.2.2.2.2.1 τ.2.2.2.2.1.heap ∧ va_T .int a0 14 (fun j => .int (nI (opsN j))) (zA τ.2.2.2.2.2.2.2.2.2.2.1) τ.2.2.2.2.1 τ.2.2.2.2.1.heap := by
  obtain ⟨hT, el, eZ⟩ := hY
  subst el; subst eZ
  obtain ⟨_, _, _, _, _, _, _, _, _, hW, hB, _⟩ := hT
  obtain ⟨a0, h1, h2⟩ := hO
  have hq : ∀ a : Nat, a < τ.2.2.2.2.2.2.2.2.2.2.1.1.heap.size → ¬ zA τ.2.2.2.2.2.2.2.2.2.2.1 a → τ.2.2.2.2.1.heap[a]? = τ.2.2.2.2.2.2.2.2.2.2.1.1.heap[a]? := fun a ha _ => hB.2 a ha
  exact ⟨a0, (h1.moved hW.alike).kept hq, (h2.moved hW.alike).kept hq⟩
theorem J_opsLen (hY : zCy l Z τ M kk mc ms) (hO : zOps Z) {idx : Nat} (hl : Cond.fieldLinkNest M.1.cls idx "Daemonsheet" "OPERANDS" "[I" "Daemonsheet" ∈ lw_tbl) (hd : decode M.2.1 pc = .ok (.getstatic idx, 3)) (hd2 : decode M.2.1 (pc + 3) = .ok (.arraylength, 1)) (h : zJ τ F (pc + 3 + 1) L (.int 14 :: st) μ c k) : zJ τ F pc L st μ c k := by
  obtain ⟨a0, h1, h2⟩ := zOps.at hY hO
  have hT := hY.1
  intro ad H locs ls hw hL hst
  refine va_getsN hT.1 hT.2.1 h1 hw.2.1 hT.own (hT.nestF hl) (fun _ q => q) hd ?_
  refine va_tlen hT.1 hT.2.1 h2 hw.2.1 (v := 14) rfl hd2 ?_
  exact h ad H locs ls hw hL (zoks_cons (zok_int _ _) hst)
theorem J_opsAt (hY : zCy l Z τ M kk mc ms) (hO : zOps Z) {idx i j : Nat} (hj : j < 14) (hl : Cond.fieldLinkNest M.1.cls idx "Daemonsheet" "OPERANDS" "[I" "Daemonsheet" ∈ lw_tbl) (hd : decode M.2.1 pc = .ok (.getstatic idx, 3)) (hd2 : decode M.2.1 (pc + 3) = .ok (.iload i, 2)) (hd3 : decode M.2.1 (pc + 3 + 2) = .ok (.iaload, 1)) (hi : L[i]? = some (some (.int (nI j)))) (h : zJ τ F (pc + 3 + 2 + 1) L (.int (nI (opsN j)) :: st) μ c k) : zJ τ F pc L st μ c k := by
  obtain ⟨a0, h1, h2⟩ := zOps.at hY hO
  have hT := hY.1
  intro ad H locs ls hw hL hst
  refine va_getsN hT.1 hT.2.1 h1 hw.2.1 hT.own (hT.nestF hl) (fun _ q => q) hd ?_
  refine lv_iload hT.1 hT.2.1 hd2 (hL.2.2 i _ hi).1 ?_
  refine va_ti hT.1 hT.2.1 h2 hw.2.1 (i := nI j) (zix_in (zix_nI hj (by decide))) (v := .int (nI (opsN j))) (by rw [nI_clamp (by omega)]) hd3 ?_
  exact h ad H locs ls hw hL (zoks_cons (zok_int _ _) hst)
end ZOP
/-! codes of the class -/
def eo (x : Nat) : Nat := if x < 20000 then 0 else if x < 21000 then 1 else if x < 22000 then 2 else if x < 30000 then 3 else x - 30001 + 4
def en (x : Nat) : Nat := if x < 20000 then x else if x < 21000 then x - 20000 else if x < 22000 then x - 21000 else if x < 30000 then x - 22000 else 0
theorem eo_lt {x : Nat} (h : tokR x) : eo x < 14 := by unfold tokR at h; unfold eo; split <;> (try split) <;> (try split) <;> (try split) <;> omega
theorem en_lt {x : Nat} (h : tokR x) : en x < 10000 := by unfold tokR at h; unfold en; split <;> (try split) <;> (try split) <;> (try split) <;> omega
theorem enc_eq {x : Nat} (h : tokR x) : enc x = nI (16 * en x + eo x) := by
  unfold tokR at h; unfold enc en eo
  congr 1
  split <;> (try split) <;> (try split) <;> (try split) <;> omega
theorem ops_ar {x : Nat} (h : tokR x) : opsN (eo x) = ar x := by
  unfold tokR at h; unfold opsN eo ar
  repeat' split
  all_goals omega
theorem nI_and15 {m : Nat} (h : m < 2147483648) : nI m &&& 15 = nI (m % 16) := by
  apply Int32.toBitVec_inj.mp
  apply BitVec.eq_of_toNat_eq
  have e : ∀ n, n < 2147483648 → (nI n).toBitVec.toNat = n := fun n hn => by
    show (Int32.ofNat n).toBitVec.toNat = n
    simp only [Int32.toBitVec_ofNat', BitVec.toNat_ofNat]
    exact Nat.mod_eq_of_lt (by omega)
  rw [Int32.toBitVec_and, BitVec.toNat_and, e m h, e _ (by omega)]
  exact Nat.and_two_pow_sub_one_eq_mod m 4
theorem nI_shr4 {m : Nat} (h : m < 2147483648) : nI m >>> ((4 : Int32) &&& 31) = nI (m / 16) := by
  apply Int32.toInt_inj.mp
  rw [nI_toInt (by omega)]
  show (nI m >>> ((4 : Int32) &&& 31)).toBitVec.toInt = _
  rw [Int32.toBitVec_shiftRight]
  show ((nI m).toBitVec.sshiftRight 4).toInt = _
  rw [BitVec.toInt_sshiftRight]
  show (nI m).toInt >>> 4 = _
  rw [nI_toInt (by omega), Int.shiftRight_eq_div_pow]
  omega
/-- the row of numbers while a formula is worked out -/
def zRw (σ : zS2) (a : Nat) : List Int → Prop
  | [] => True
  | x :: s => zRw σ a s ∧ σ a s.length = Int32.ofInt x
theorem zRw.mv {σ σ' : zS2} {a : Nat} {s : List Int} (h : zRw σ a s) (e : ∀ j, j < s.length → σ' a j = σ a j) : zRw σ' a s := by
  induction s with
  | nil => trivial
  | cons x s ih => exact ⟨ih h.1 (fun j hj => e j (by simp; omega)), by rw [e _ (by simp)]; exact h.2⟩
theorem mi.row {t : Nat} (ht : ta t) {μ : zMem} {σ σ' : zS2} {π : zP2} {S : zS2} (h : mi t μ σ π S) (e : ∀ b j, b ≠ t + 7 → σ' b j = σ b j) : mi t μ σ' π S := by
  refine ⟨h.1, ⟨fun i hi => ?_, fun i hi => ?_⟩, fun x hx k hk => ?_, ?_, ?_, ?_, fun s h5 h1 => ?_, fun c hc => ?_⟩
  · rw [e _ _ (by omega)]; exact h.nc hi
  · rw [e _ _ (by omega)]; exact h.ns hi
  · obtain ⟨f1, _⟩ := lks_f x hx
    rw [e _ _ (by omega)]; exact h.2.2.1 x hx k hk
  · rw [e _ _ (by omega)]; exact h.d
  · rw [e _ _ (by omega)]; exact h.w
  · rw [e _ _ (by omega)]; exact h.wk
  · rw [e _ _ (by omega), e _ _ (by omega)]; exact h.st s h5 h1
  · obtain ⟨f, e1, hF⟩ := h.fm hc
    exact ⟨f, e1, hF.mv zgr.rf (fun b hb _ j => e b j (by have := im_out ht hb; omega)) (fun _ _ _ _ => rfl) (fun _ _ => rfl) rfl rfl rfl⟩

set_option maxRecDepth 100000 in
set_option maxHeartbeats 4000000 in
theorem c_X6_valueNamed0 {l : Launch} {Z : zZ} (hZ : zSt l Z) {μ : zMem} {σ : zS2} {π : zP2} {g : zG2} {t : Nat} (ht : ta t) {S : zS2} (hM : mo t μ σ π S) {v : Int32} : zCt l Z mX6_valueNamed 1 0 0 [.ref t, .int 0, .int v] (zA4 μ σ π g) (fun r μ' => r = some (.int v) ∧ μ' = zA4 μ σ π g) := by
  refine zCt_of hZ mpX6_valueNamed (Nat.le_of_ble_eq_true rfl) (L := [some (.ref t), some (.int 0), some (.int v)]) rfl (fun τ hY => ?_)
  have hT := hY.1
  have hB := hM.1.tb
  refine J_iload_n (i := 1) hT dX6_valueNamed_0 rfl rfl ?_
  refine J_tableOut (tgt := 89) hT dX6_valueNamed_1 (by decide) (by decide) ?_
  refine J_iload_n (i := 2) hT dX6_valueNamed_89 rfl rfl ?_
  exact J_iret hT dX6_valueNamed_90 rfl rfl (⟨rfl, rfl⟩) (Nat.le_refl _) (Nat.le_refl _)

set_option maxRecDepth 100000 in
set_option maxHeartbeats 4000000 in
theorem c_X6_valueNamed1 {l : Launch} {Z : zZ} (hZ : zSt l Z) {μ : zMem} {σ : zS2} {π : zP2} {g : zG2} {t : Nat} (ht : ta t) {S : zS2} (hM : mo t μ σ π S) {n : Nat} (hn : n < 12) : zCt l Z mX6_valueNamed 1 0 0 [.ref t, .int 1, .int (nI n)] (zA4 μ σ π g) (fun r μ' => r = some (.int (S 88 n)) ∧ μ' = zA4 μ σ π g) := by
  refine zCt_of hZ mpX6_valueNamed (Nat.le_of_ble_eq_true rfl) (L := [some (.ref t), some (.int 1), some (.int (nI n))]) rfl (fun τ hY => ?_)
  have hT := hY.1
  have hB := hM.1.tb
  refine J_iload_n (i := 1) hT dX6_valueNamed_0 rfl rfl ?_
  refine J_tableIn (off := 27) (tgt := 28) hT dX6_valueNamed_1 (by decide) (by decide) (by decide) (by decide) ?_
  refine J_aload_n (i := 0) hT dX6_valueNamed_28 rfl rfl ?_
  refine J_iload_n (i := 2) hT dX6_valueNamed_29 rfl rfl ?_
  refine J_iconst (v := 0) hT dX6_valueNamed_30 rfl ?_
  refine R_callV1 (ci := 6) hY dX6_valueNamed_31 mfX6_cellValue miX6_cellValue msX6_cellValue kX6_217 ⟨by decide, rfl⟩ hB.k (c_X6_cellValue hZ ht hM hn) rfl (by decide) rfl rfl (Nat.le_of_ble_eq_true rfl) (Nat.le_refl _) (Nat.le_refl _) ?_
  exact J_iret hT dX6_valueNamed_34 rfl rfl (⟨rfl, rfl⟩) (Nat.le_refl _) (Nat.le_refl _)

set_option maxRecDepth 100000 in
set_option maxHeartbeats 4000000 in
theorem c_X6_valueNamed2 {l : Launch} {Z : zZ} (hZ : zSt l Z) {μ : zMem} {σ : zS2} {π : zP2} {g : zG2} {t : Nat} (ht : ta t) {S : zS2} (hM : mo t μ σ π S) {n : Nat} (hn : n < 5) : zCt l Z mX6_valueNamed 1 0 0 [.ref t, .int 2, .int (nI n)] (zA4 μ σ π g) (fun r μ' => r = some (.int (S 90 n)) ∧ μ' = zA4 μ σ π g) := by
  refine zCt_of hZ mpX6_valueNamed (Nat.le_of_ble_eq_true rfl) (L := [some (.ref t), some (.int 2), some (.int (nI n))]) rfl (fun τ hY => ?_)
  have hT := hY.1
  have hB := hM.1.tb
  refine J_iload_n (i := 1) hT dX6_valueNamed_0 rfl rfl ?_
  refine J_tableIn (off := 34) (tgt := 35) hT dX6_valueNamed_1 (by decide) (by decide) (by decide) (by decide) ?_
  refine J_iload_n (i := 2) hT dX6_valueNamed_35 rfl rfl ?_
  refine J_if_lt (tgt := 60) hT dX6_valueNamed_36 (by decide) (fun q => absurd q (nI_pos (by omega))) (fun _ => ?_)
  refine J_iload_n (i := 2) hT dX6_valueNamed_39 rfl rfl ?_
  refine J_aload_n (i := 0) hT dX6_valueNamed_40 rfl rfl ?_
  refine R_getP hT fX6_31 rfl dX6_valueNamed_41 hB.k hB.p3 ?_
  refine R_alen hT dX6_valueNamed_44 (by rw [hB.k5]; decide) hB.l5 ?_
  refine J_icmp_ge (tgt := 60) hT dX6_valueNamed_45 (by decide) (fun q => absurd q (Int32.not_le.mpr (nI_lt (a := n) (b := 5) (by omega) (by decide)))) (fun _ => ?_)
  refine J_aload_n (i := 0) hT dX6_valueNamed_48 rfl rfl ?_
  refine R_getP hT fX6_31 rfl dX6_valueNamed_49 hB.k hB.p3 ?_
  refine J_iload_n (i := 2) hT dX6_valueNamed_52 rfl rfl ?_
  refine R_aald1 hT dX6_valueNamed_53 hB.k5 (by decide) hB.l5 (by first | exact ⟨rfl, by decide⟩ | exact zix_nI (by omega) (by decide) | assumption) (hB.pr hn) ?_
  refine R_getI hT fX6_72 rfl dX6_valueNamed_54 (hB.kr hn) ?_
  refine J_topil (hM.1.rv hn) ?_
  refine J_goto (tgt := 61) hT dX6_valueNamed_57 (by decide) ?_
  exact J_iret hT dX6_valueNamed_61 rfl rfl (⟨rfl, rfl⟩) (Nat.le_refl _) (Nat.le_refl _)

set_option maxRecDepth 100000 in
set_option maxHeartbeats 4000000 in
theorem c_X6_valueNamed3 {l : Launch} {Z : zZ} (hZ : zSt l Z) {μ : zMem} {σ : zS2} {π : zP2} {g : zG2} {t : Nat} (ht : ta t) {S : zS2} (hM : mo t μ σ π S) {n : Nat} (hn : n < 5) : zCt l Z mX6_valueNamed 1 0 0 [.ref t, .int 3, .int (nI n)] (zA4 μ σ π g) (fun r μ' => r = some (.int (S 96 n)) ∧ μ' = zA4 μ σ π g) := by
  refine zCt_of hZ mpX6_valueNamed (Nat.le_of_ble_eq_true rfl) (L := [some (.ref t), some (.int 3), some (.int (nI n))]) rfl (fun τ hY => ?_)
  have hT := hY.1
  have hB := hM.1.tb
  refine J_iload_n (i := 1) hT dX6_valueNamed_0 rfl rfl ?_
  refine J_tableIn (off := 61) (tgt := 62) hT dX6_valueNamed_1 (by decide) (by decide) (by decide) (by decide) ?_
  refine J_iload_n (i := 2) hT dX6_valueNamed_62 rfl rfl ?_
  refine J_if_lt (tgt := 87) hT dX6_valueNamed_63 (by decide) (fun q => absurd q (nI_pos (by omega))) (fun _ => ?_)
  refine J_iload_n (i := 2) hT dX6_valueNamed_66 rfl rfl ?_
  refine J_aload_n (i := 0) hT dX6_valueNamed_67 rfl rfl ?_
  refine R_getP hT fX6_37 rfl dX6_valueNamed_68 hB.k hB.p4 ?_
  refine R_alen hT dX6_valueNamed_71 (by rw [hB.k6]; decide) hB.l6 ?_
  refine J_icmp_ge (tgt := 87) hT dX6_valueNamed_72 (by decide) (fun q => absurd q (Int32.not_le.mpr (nI_lt (a := n) (b := 5) (by omega) (by decide)))) (fun _ => ?_)
  refine J_aload_n (i := 0) hT dX6_valueNamed_75 rfl rfl ?_
  refine R_getP hT fX6_37 rfl dX6_valueNamed_76 hB.k hB.p4 ?_
  refine J_iload_n (i := 2) hT dX6_valueNamed_79 rfl rfl ?_
  refine R_aald1 hT dX6_valueNamed_80 hB.k6 (by decide) hB.l6 (by first | exact ⟨rfl, by decide⟩ | exact zix_nI (by omega) (by decide) | assumption) (hB.ps hn) ?_
  refine R_getI hT fX6_192 rfl dX6_valueNamed_81 (hB.ks hn) ?_
  refine J_topil (hM.1.tld hn) ?_
  refine J_goto (tgt := 88) hT dX6_valueNamed_84 (by decide) ?_
  exact J_iret hT dX6_valueNamed_88 rfl rfl (⟨rfl, rfl⟩) (Nat.le_refl _) (Nat.le_refl _)

theorem oI_to {x : Int} (h : -2147483648 ≤ x ∧ x < 2147483648) : (Int32.ofInt x).toInt = x := Int32.toInt_ofInt_of_le (by omega) (by omega)
theorem oI_long {x : Int} (h : -2147483648 ≤ x ∧ x < 2147483648) : (Int32.ofInt x).toInt64 = lI x := by rw [lI_i, oI_to h]
theorem oI_lt {x y : Int} (hx : ib x) (hy : ib y) : Int32.ofInt x < Int32.ofInt y ↔ x < y := by
  unfold ib at *
  rw [Int32.lt_iff_toInt_lt, oI_to (by omega), oI_to (by omega)]
theorem oI_inj {x y : Int} (hx : ib x) (hy : ib y) : Int32.ofInt x = Int32.ofInt y ↔ x = y := by
  unfold ib at *
  rw [← Int32.toInt_inj, oI_to (by omega), oI_to (by omega)]
theorem oI_max {a x : Int} (ha : ib a) (hx : ib x) : (if Int32.ofInt a < Int32.ofInt x then Int32.ofInt x else Int32.ofInt a).toInt64 = lI (if x < a then a else x) := by
  have e : (if Int32.ofInt a < Int32.ofInt x then Int32.ofInt x else Int32.ofInt a) = Int32.ofInt (if x < a then a else x) := by
    by_cases q : a < x
    · rw [if_pos ((oI_lt ha hx).mpr q), if_neg (by omega)]
    · rw [if_neg (fun z => q ((oI_lt ha hx).mp z))]
      by_cases r : x < a
      · rw [if_pos r]
      · rw [if_neg r]; congr 1; omega
  rw [e]
  exact oI_long (by unfold ib at ha hx; split <;> omega)
theorem oI_min {a x : Int} (ha : ib a) (hx : ib x) : (if Int32.ofInt x < Int32.ofInt a then Int32.ofInt x else Int32.ofInt a).toInt64 = lI (if x < a then x else a) := by
  have e : (if Int32.ofInt x < Int32.ofInt a then Int32.ofInt x else Int32.ofInt a) = Int32.ofInt (if x < a then x else a) := by
    by_cases q : x < a
    · rw [if_pos ((oI_lt hx ha).mpr q), if_pos q]
    · rw [if_neg (fun z => q ((oI_lt hx ha).mp z)), if_neg q]
  rw [e]
  exact oI_long (by unfold ib at ha hx; split <;> omega)

set_option maxRecDepth 100000 in
set_option maxHeartbeats 4000000 in
theorem c_X6_combine4 {l : Launch} {Z : zZ} (hZ : zSt l Z) {x : Int} (hx : ib x) {v u : Int32} {μ : zMem} : zCt l Z mX6_combine 0 0 0 [.int 4, .int (Int32.ofInt x), .int (v), .int (u)] μ (fun r μ' => r = some (.long (lI (-x))) ∧ μ' = μ) := by
  refine zCt_of hZ mpX6_combine (Nat.le_of_ble_eq_true rfl) (L := [some (.int 4), some (.int (Int32.ofInt x)), some (.int (v)), some (.int (u))]) rfl (fun τ hY => ?_)
  have hT := hY.1
  refine J_iload_n (i := 0) hT dX6_combine_0 rfl rfl ?_
  refine J_tableIn (off := 51) (tgt := 52) hT dX6_combine_1 (by decide) (by decide) (by decide) (by decide) ?_
  refine J_iload_n (i := 1) hT dX6_combine_52 rfl rfl ?_
  refine J_ineg hT dX6_combine_53 ?_
  refine J_i2l hT dX6_combine_54 ?_
  exact J_lret hT dX6_combine_55 rfl (⟨by rw [← Int32.ofInt_neg, oI_long (by unfold ib at hx; omega)], rfl⟩) (Nat.le_refl _) (Nat.le_refl _)

set_option maxRecDepth 100000 in
set_option maxHeartbeats 4000000 in
theorem c_X6_combine5 {l : Launch} {Z : zZ} (hZ : zSt l Z) {a x : Int} (ha : ib a) (hx : ib x) {u : Int32} {μ : zMem} : zCt l Z mX6_combine 0 0 0 [.int 5, .int (Int32.ofInt a), .int (Int32.ofInt x), .int (u)] μ (fun r μ' => r = some (.long (lI (a + x))) ∧ μ' = μ) := by
  refine zCt_of hZ mpX6_combine (Nat.le_of_ble_eq_true rfl) (L := [some (.int 5), some (.int (Int32.ofInt a)), some (.int (Int32.ofInt x)), some (.int (u))]) rfl (fun τ hY => ?_)
  have hT := hY.1
  refine J_iload_n (i := 0) hT dX6_combine_0 rfl rfl ?_
  refine J_tableIn (off := 55) (tgt := 56) hT dX6_combine_1 (by decide) (by decide) (by decide) (by decide) ?_
  refine J_iload_n (i := 1) hT dX6_combine_56 rfl rfl ?_
  refine J_iload_n (i := 2) hT dX6_combine_57 rfl rfl ?_
  refine J_iadd hT dX6_combine_58 ?_
  refine J_i2l hT dX6_combine_59 ?_
  exact J_lret hT dX6_combine_60 rfl (⟨by rw [← Int32.ofInt_add, oI_long (by unfold ib at ha hx; omega)], rfl⟩) (Nat.le_refl _) (Nat.le_refl _)

set_option maxRecDepth 100000 in
set_option maxHeartbeats 4000000 in
theorem c_X6_combine6 {l : Launch} {Z : zZ} (hZ : zSt l Z) {a x : Int} (ha : ib a) (hx : ib x) {u : Int32} {μ : zMem} : zCt l Z mX6_combine 0 0 0 [.int 6, .int (Int32.ofInt a), .int (Int32.ofInt x), .int (u)] μ (fun r μ' => r = some (.long (lI (a - x))) ∧ μ' = μ) := by
  refine zCt_of hZ mpX6_combine (Nat.le_of_ble_eq_true rfl) (L := [some (.int 6), some (.int (Int32.ofInt a)), some (.int (Int32.ofInt x)), some (.int (u))]) rfl (fun τ hY => ?_)
  have hT := hY.1
  refine J_iload_n (i := 0) hT dX6_combine_0 rfl rfl ?_
  refine J_tableIn (off := 60) (tgt := 61) hT dX6_combine_1 (by decide) (by decide) (by decide) (by decide) ?_
  refine J_iload_n (i := 1) hT dX6_combine_61 rfl rfl ?_
  refine J_iload_n (i := 2) hT dX6_combine_62 rfl rfl ?_
  refine J_isub hT dX6_combine_63 ?_
  refine J_i2l hT dX6_combine_64 ?_
  exact J_lret hT dX6_combine_65 rfl (⟨by rw [← Int32.ofInt_sub, oI_long (by unfold ib at ha hx; omega)], rfl⟩) (Nat.le_refl _) (Nat.le_refl _)

set_option maxRecDepth 100000 in
set_option maxHeartbeats 4000000 in
theorem c_X6_combine7 {l : Launch} {Z : zZ} (hZ : zSt l Z) {a x : Int} (ha : ib a) (hx : ib x) {u : Int32} {μ : zMem} : zCt l Z mX6_combine 0 0 0 [.int 7, .int (Int32.ofInt a), .int (Int32.ofInt x), .int (u)] μ (fun r μ' => r = some (.long (lI (a * x))) ∧ μ' = μ) := by
  refine zCt_of hZ mpX6_combine (Nat.le_of_ble_eq_true rfl) (L := [some (.int 7), some (.int (Int32.ofInt a)), some (.int (Int32.ofInt x)), some (.int (u))]) rfl (fun τ hY => ?_)
  have hT := hY.1
  refine J_iload_n (i := 0) hT dX6_combine_0 rfl rfl ?_
  refine J_tableIn (off := 65) (tgt := 66) hT dX6_combine_1 (by decide) (by decide) (by decide) (by decide) ?_
  refine J_iload_n (i := 1) hT dX6_combine_66 rfl rfl ?_
  refine J_i2l hT dX6_combine_67 ?_
  refine J_iload_n (i := 2) hT dX6_combine_68 rfl rfl ?_
  refine J_i2l hT dX6_combine_69 ?_
  refine J_lmul hT dX6_combine_70 ?_
  exact J_lret hT dX6_combine_71 rfl (⟨by rw [oI_long (by unfold ib at ha hx; omega), oI_long (by unfold ib at ha hx; omega), lI_mul], rfl⟩) (Nat.le_refl _) (Nat.le_refl _)

set_option maxRecDepth 100000 in
set_option maxHeartbeats 4000000 in
theorem c_X6_combine8 {l : Launch} {Z : zZ} (hZ : zSt l Z) {a x : Int} (ha : ib a) (hx : ib x) {u : Int32} {μ : zMem} : zCt l Z mX6_combine 0 0 0 [.int 8, .int (Int32.ofInt a), .int (Int32.ofInt x), .int (u)] μ (fun r μ' => r = some (.long (lI (if a < x then 1 else 0))) ∧ μ' = μ) := by
  refine zCt_of hZ mpX6_combine (Nat.le_of_ble_eq_true rfl) (L := [some (.int 8), some (.int (Int32.ofInt a)), some (.int (Int32.ofInt x)), some (.int (u))]) rfl (fun τ hY => ?_)
  have hT := hY.1
  refine J_iload_n (i := 0) hT dX6_combine_0 rfl rfl ?_
  refine J_tableIn (off := 71) (tgt := 72) hT dX6_combine_1 (by decide) (by decide) (by decide) (by decide) ?_
  refine J_iload_n (i := 1) hT dX6_combine_72 rfl rfl ?_
  refine J_iload_n (i := 2) hT dX6_combine_73 rfl rfl ?_
  refine J_icmp_ge (tgt := 81) hT dX6_combine_74 (by decide) (fun q74 => ?_) (fun q74 => ?_)
  · refine J_lconst (v := 0) hT dX6_combine_81 rfl ?_
    exact J_lret hT dX6_combine_82 rfl (⟨by first | (rw [if_neg (fun q => absurd ((oI_lt ha hx).mpr q) (Int32.not_lt.mpr q74))]; rfl) | (rw [if_pos ((oI_lt ha hx).mp (Int32.not_le.mp q74))]; rfl), rfl⟩) (Nat.le_refl _) (Nat.le_refl _)
  · refine J_lconst (v := 1) hT dX6_combine_77 rfl ?_
    refine J_goto (tgt := 82) hT dX6_combine_78 (by decide) ?_
    exact J_lret hT dX6_combine_82 rfl (⟨by first | (rw [if_neg (fun q => absurd ((oI_lt ha hx).mpr q) (Int32.not_lt.mpr q74))]; rfl) | (rw [if_pos ((oI_lt ha hx).mp (Int32.not_le.mp q74))]; rfl), rfl⟩) (Nat.le_refl _) (Nat.le_refl _)

set_option maxRecDepth 100000 in
set_option maxHeartbeats 4000000 in
theorem c_X6_combine9 {l : Launch} {Z : zZ} (hZ : zSt l Z) {a x : Int} (ha : ib a) (hx : ib x) {u : Int32} {μ : zMem} : zCt l Z mX6_combine 0 0 0 [.int 9, .int (Int32.ofInt a), .int (Int32.ofInt x), .int (u)] μ (fun r μ' => r = some (.long (lI (if x < a then 1 else 0))) ∧ μ' = μ) := by
  refine zCt_of hZ mpX6_combine (Nat.le_of_ble_eq_true rfl) (L := [some (.int 9), some (.int (Int32.ofInt a)), some (.int (Int32.ofInt x)), some (.int (u))]) rfl (fun τ hY => ?_)
  have hT := hY.1
  refine J_iload_n (i := 0) hT dX6_combine_0 rfl rfl ?_
  refine J_tableIn (off := 82) (tgt := 83) hT dX6_combine_1 (by decide) (by decide) (by decide) (by decide) ?_
  refine J_iload_n (i := 1) hT dX6_combine_83 rfl rfl ?_
  refine J_iload_n (i := 2) hT dX6_combine_84 rfl rfl ?_
  refine J_icmp_le (tgt := 92) hT dX6_combine_85 (by decide) (fun q85 => ?_) (fun q85 => ?_)
  · refine J_lconst (v := 0) hT dX6_combine_92 rfl ?_
    exact J_lret hT dX6_combine_93 rfl (⟨by first | (rw [if_neg (fun q => absurd ((oI_lt hx ha).mpr q) (Int32.not_lt.mpr q85))]; rfl) | (rw [if_pos ((oI_lt hx ha).mp (Int32.not_le.mp q85))]; rfl), rfl⟩) (Nat.le_refl _) (Nat.le_refl _)
  · refine J_lconst (v := 1) hT dX6_combine_88 rfl ?_
    refine J_goto (tgt := 93) hT dX6_combine_89 (by decide) ?_
    exact J_lret hT dX6_combine_93 rfl (⟨by first | (rw [if_neg (fun q => absurd ((oI_lt hx ha).mpr q) (Int32.not_lt.mpr q85))]; rfl) | (rw [if_pos ((oI_lt hx ha).mp (Int32.not_le.mp q85))]; rfl), rfl⟩) (Nat.le_refl _) (Nat.le_refl _)

set_option maxRecDepth 100000 in
set_option maxHeartbeats 4000000 in
theorem c_X6_combine10 {l : Launch} {Z : zZ} (hZ : zSt l Z) {a x : Int} (ha : ib a) (hx : ib x) {u : Int32} {μ : zMem} : zCt l Z mX6_combine 0 0 0 [.int 10, .int (Int32.ofInt a), .int (Int32.ofInt x), .int (u)] μ (fun r μ' => r = some (.long (lI (if a = x then 1 else 0))) ∧ μ' = μ) := by
  refine zCt_of hZ mpX6_combine (Nat.le_of_ble_eq_true rfl) (L := [some (.int 10), some (.int (Int32.ofInt a)), some (.int (Int32.ofInt x)), some (.int (u))]) rfl (fun τ hY => ?_)
  have hT := hY.1
  refine J_iload_n (i := 0) hT dX6_combine_0 rfl rfl ?_
  refine J_tableIn (off := 93) (tgt := 94) hT dX6_combine_1 (by decide) (by decide) (by decide) (by decide) ?_
  refine J_iload_n (i := 1) hT dX6_combine_94 rfl rfl ?_
  refine J_iload_n (i := 2) hT dX6_combine_95 rfl rfl ?_
  refine J_icmp_ne (tgt := 103) hT dX6_combine_96 (by decide) (fun q96 => ?_) (fun q96 => ?_)
  · refine J_lconst (v := 0) hT dX6_combine_103 rfl ?_
    exact J_lret hT dX6_combine_104 rfl (⟨by first | (rw [if_neg (fun q => absurd ((oI_inj ha hx).mpr q) q96)]; rfl) | (rw [if_pos ((oI_inj ha hx).mp q96)]; rfl), rfl⟩) (Nat.le_refl _) (Nat.le_refl _)
  · refine J_lconst (v := 1) hT dX6_combine_99 rfl ?_
    refine J_goto (tgt := 104) hT dX6_combine_100 (by decide) ?_
    exact J_lret hT dX6_combine_104 rfl (⟨by first | (rw [if_neg (fun q => absurd ((oI_inj ha hx).mpr q) q96)]; rfl) | (rw [if_pos ((oI_inj ha hx).mp q96)]; rfl), rfl⟩) (Nat.le_refl _) (Nat.le_refl _)

set_option maxRecDepth 100000 in
set_option maxHeartbeats 4000000 in
theorem c_X6_combine11 {l : Launch} {Z : zZ} (hZ : zSt l Z) {a x : Int} (ha : ib a) (hx : ib x) {u : Int32} {μ : zMem} : zCt l Z mX6_combine 0 0 0 [.int 11, .int (Int32.ofInt a), .int (Int32.ofInt x), .int (u)] μ (fun r μ' => r = some (.long (lI (if x < a then a else x))) ∧ μ' = μ) := by
  refine zCt_of hZ mpX6_combine (Nat.le_of_ble_eq_true rfl) (L := [some (.int 11), some (.int (Int32.ofInt a)), some (.int (Int32.ofInt x)), some (.int (u))]) rfl (fun τ hY => ?_)
  have hT := hY.1
  refine J_iload_n (i := 0) hT dX6_combine_0 rfl rfl ?_
  refine J_tableIn (off := 104) (tgt := 105) hT dX6_combine_1 (by decide) (by decide) (by decide) (by decide) ?_
  refine J_iload_n (i := 1) hT dX6_combine_105 rfl rfl ?_
  refine J_iload_n (i := 2) hT dX6_combine_106 rfl rfl ?_
  refine J_mmax hT dX6_combine_107 kX6_226 rfl (by decide) (Nat.le_refl _) (Nat.le_refl _) ?_
  refine J_i2l hT dX6_combine_110 ?_
  exact J_lret hT dX6_combine_111 rfl (⟨by rw [oI_max ha hx], rfl⟩) (Nat.le_refl _) (Nat.le_refl _)

set_option maxRecDepth 100000 in
set_option maxHeartbeats 4000000 in
theorem c_X6_combine12 {l : Launch} {Z : zZ} (hZ : zSt l Z) {a x : Int} (ha : ib a) (hx : ib x) {u : Int32} {μ : zMem} : zCt l Z mX6_combine 0 0 0 [.int 12, .int (Int32.ofInt a), .int (Int32.ofInt x), .int (u)] μ (fun r μ' => r = some (.long (lI (if x < a then x else a))) ∧ μ' = μ) := by
  refine zCt_of hZ mpX6_combine (Nat.le_of_ble_eq_true rfl) (L := [some (.int 12), some (.int (Int32.ofInt a)), some (.int (Int32.ofInt x)), some (.int (u))]) rfl (fun τ hY => ?_)
  have hT := hY.1
  refine J_iload_n (i := 0) hT dX6_combine_0 rfl rfl ?_
  refine J_tableIn (off := 111) (tgt := 112) hT dX6_combine_1 (by decide) (by decide) (by decide) (by decide) ?_
  refine J_iload_n (i := 1) hT dX6_combine_112 rfl rfl ?_
  refine J_iload_n (i := 2) hT dX6_combine_113 rfl rfl ?_
  refine J_mmin hT dX6_combine_114 kX6_221 rfl (by decide) (Nat.le_refl _) (Nat.le_refl _) ?_
  refine J_i2l hT dX6_combine_117 ?_
  exact J_lret hT dX6_combine_118 rfl (⟨by rw [oI_min ha hx], rfl⟩) (Nat.le_refl _) (Nat.le_refl _)

set_option maxRecDepth 100000 in
set_option maxHeartbeats 4000000 in
theorem c_X6_combine13 {l : Launch} {Z : zZ} (hZ : zSt l Z) {q a x : Int} (hq : ib q) (ha : ib a) (hx : ib x) {μ : zMem} : zCt l Z mX6_combine 0 0 0 [.int 13, .int (Int32.ofInt q), .int (Int32.ofInt a), .int (Int32.ofInt x)] μ (fun r μ' => r = some (.long (lI (if 0 < q then a else x))) ∧ μ' = μ) := by
  refine zCt_of hZ mpX6_combine (Nat.le_of_ble_eq_true rfl) (L := [some (.int 13), some (.int (Int32.ofInt q)), some (.int (Int32.ofInt a)), some (.int (Int32.ofInt x))]) rfl (fun τ hY => ?_)
  have hT := hY.1
  refine J_iload_n (i := 0) hT dX6_combine_0 rfl rfl ?_
  refine J_tableOut (tgt := 119) hT dX6_combine_1 (by decide) (by decide) ?_
  refine J_iload_n (i := 1) hT dX6_combine_119 rfl rfl ?_
  refine J_if_le (tgt := 128) hT dX6_combine_120 (by decide) (fun z120 => ?_) (fun z120 => ?_)
  · refine J_iload_n (i := 3) hT dX6_combine_128 rfl rfl ?_
    refine J_i2l hT dX6_combine_129 ?_
    exact J_lret hT dX6_combine_130 rfl (⟨by first | (rw [if_pos ((oI_lt (by unfold ib; omega) hq).mp (show Int32.ofInt 0 < _ from Int32.not_le.mp z120)), oI_long (by unfold ib at ha hx; omega)]; done) | (rw [if_neg (fun z => absurd ((oI_lt (x := 0) (by unfold ib; omega) hq).mpr z) (Int32.not_lt.mpr z120)), oI_long (by unfold ib at ha hx; omega)]; done), rfl⟩) (Nat.le_refl _) (Nat.le_refl _)
  · refine J_iload_n (i := 2) hT dX6_combine_123 rfl rfl ?_
    refine J_i2l hT dX6_combine_124 ?_
    refine J_goto (tgt := 130) hT dX6_combine_125 (by decide) ?_
    exact J_lret hT dX6_combine_130 rfl (⟨by first | (rw [if_pos ((oI_lt (by unfold ib; omega) hq).mp (show Int32.ofInt 0 < _ from Int32.not_le.mp z120)), oI_long (by unfold ib at ha hx; omega)]; done) | (rw [if_neg (fun z => absurd ((oI_lt (x := 0) (by unfold ib; omega) hq).mpr z) (Int32.not_lt.mpr z120)), oI_long (by unfold ib at ha hx; omega)]; done), rfl⟩) (Nat.le_refl _) (Nat.le_refl _)


