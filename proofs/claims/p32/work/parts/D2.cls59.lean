/-! ===== where a letter stands in the constant: the JDK's own methods ===== -/
section SJ
variable {l : Launch} {Z : zZ}
set_option maxRecDepth 100000 in
set_option maxHeartbeats 4000000 in
theorem s_coder (hZ : zSt l Z) {sa sv : Nat} (hS : zStr (zA Z) sa sv Z.1 Z.1.heap) : sCt l Z mJ0_coder 0 [.ref sa] (.int 0) := by
  refine sCt_of hZ mpJ0_coder (Nat.le_of_ble_eq_true rfl) (lv := [(0, .ref sa)]) rfl (fun τ ls hY hl => ?_)
  have hT := hY.1
  have hB : zB Z τ.2.2.2.2.1.heap := by
    obtain ⟨hT, el, eZ⟩ := hY
    subst el; subst eZ
    obtain ⟨_, _, _, _, _, _, _, _, _, _, hB, _⟩ := hT
    exact hB
  have hx := hT.1
  have hb := hT.2.1
  have hf : sL τ [] := fun _ h => nomatch h
  obtain ⟨s1, s2, s3, s4, s5⟩ := zStr.at hY hS hB
  refine va_gets hx hb s5 hf.S hT.own (hT.ws _ fj38) (fun _ q => q) dJ0_coder_0 ?_
  refine lv_if_eq (tgt := 13) hx hb dJ0_coder_3 (by decide) (fun q => absurd q (by decide)) (fun _ => ?_)
  refine lv_aload_n (i := 0) hx hb dJ0_coder_6 rfl (lv_at hl 0 rfl) ?_
  refine vk_getf hx hb s2 hf.S hT.own (hT.ws _ fj15) (fun _ q => q) dJ0_coder_7 ?_
  refine lv_goto (tgt := 14) hx hb dJ0_coder_10 (by decide) ?_
  exact s_iret hT hf dJ0_coder_14 rfl rfl
set_option maxRecDepth 100000 in
set_option maxHeartbeats 4000000 in
theorem s_isLatin1 (hZ : zSt l Z) {sa sv : Nat} (hS : zStr (zA Z) sa sv Z.1 Z.1.heap) : sCt l Z mJ0_isLatin1 0 [.ref sa] (.int 1) := by
  refine sCt_of hZ mpJ0_isLatin1 (Nat.le_of_ble_eq_true rfl) (lv := [(0, .ref sa)]) rfl (fun τ ls hY hl => ?_)
  have hT := hY.1
  have hB : zB Z τ.2.2.2.2.1.heap := by
    obtain ⟨hT, el, eZ⟩ := hY
    subst el; subst eZ
    obtain ⟨_, _, _, _, _, _, _, _, _, _, hB, _⟩ := hT
    exact hB
  have hx := hT.1
  have hb := hT.2.1
  have hf : sL τ [] := fun _ h => nomatch h
  obtain ⟨s1, s2, s3, s4, s5⟩ := zStr.at hY hS hB
  refine va_gets hx hb s5 hf.S hT.own (hT.ws _ fj38) (fun _ q => q) dJ0_isLatin1_0 ?_
  refine lv_if_eq (tgt := 17) hx hb dJ0_isLatin1_3 (by decide) (fun q => absurd q (by decide)) (fun _ => ?_)
  refine lv_aload_n (i := 0) hx hb dJ0_isLatin1_6 rfl (lv_at hl 0 rfl) ?_
  refine vk_getf hx hb s2 hf.S hT.own (hT.ws _ fj15) (fun _ q => q) dJ0_isLatin1_7 ?_
  refine lv_if_ne (tgt := 17) hx hb dJ0_isLatin1_10 (by decide) (fun q => absurd rfl q) (fun _ => ?_)
  refine lv_iconst (v := 1) hx hb dJ0_isLatin1_13 rfl ?_
  refine lv_goto (tgt := 18) hx hb dJ0_isLatin1_14 (by decide) ?_
  exact s_iret hT hf dJ0_isLatin1_18 rfl rfl
set_option maxRecDepth 100000 in
set_option maxHeartbeats 4000000 in
theorem s_length (hZ : zSt l Z) {sa sv : Nat} (hS : zStr (zA Z) sa sv Z.1 Z.1.heap) : sCt l Z mJ0_length 1 [.ref sa] (.int 15) := by
  refine sCt_of hZ mpJ0_length (Nat.le_of_ble_eq_true rfl) (lv := [(0, .ref sa)]) rfl (fun τ ls hY hl => ?_)
  have hT := hY.1
  have hB : zB Z τ.2.2.2.2.1.heap := by
    obtain ⟨hT, el, eZ⟩ := hY
    subst el; subst eZ
    obtain ⟨_, _, _, _, _, _, _, _, _, _, hB, _⟩ := hT
    exact hB
  have hx := hT.1
  have hb := hT.2.1
  have hf : sL τ [] := fun _ h => nomatch h
  obtain ⟨s1, s2, s3, s4, s5⟩ := zStr.at hY hS hB
  refine lv_aload_n (i := 0) hx hb dJ0_length_0 rfl (lv_at hl 0 rfl) ?_
  refine vk_getf hx hb s3 hf.S hT.own (hT.ws _ fj9) (fun _ q => q) dJ0_length_1 ?_
  refine va_tlen hx hb s4 hf.S (v := 15) rfl dJ0_length_4 ?_
  refine lv_aload_n (i := 0) hx hb dJ0_length_5 rfl (lv_at hl 0 rfl) ?_
  refine s_callV hY dJ0_length_6 mfJ0_coder miJ0_coder msJ0_coder kj335 (by obtain ⟨cell, q1, q2, q3, -⟩ := s1; exact ⟨cell, q1, q2, q3⟩) (s_coder hZ hS) hB (as := []) rfl (by decide) rfl hl.1 (by decide) (Nat.le_refl _) (Nat.le_refl _) hf (fun locs hf => ?_)
  refine lv_ishr hx hb dJ0_length_9 ?_
  exact s_iret hT hf dJ0_length_10 rfl rfl
set_option maxRecDepth 100000 in
set_option maxHeartbeats 4000000 in
theorem s_canEncode1 (hZ : zSt l Z) {a : Int32} (h0 : ¬ a < 0) (h1 : ¬ 255 < a) : sCt l Z mJ1_canEncode 0 [.int a] (.int 1) := by
  refine sCt_of hZ mpJ1_canEncode (Nat.le_of_ble_eq_true rfl) (lv := [(0, .int a)]) rfl (fun τ ls hY hl => ?_)
  have hT := hY.1
  have hB : zB Z τ.2.2.2.2.1.heap := by
    obtain ⟨hT, el, eZ⟩ := hY
    subst el; subst eZ
    obtain ⟨_, _, _, _, _, _, _, _, _, _, hB, _⟩ := hT
    exact hB
  have hx := hT.1
  have hb := hT.2.1
  have hf : sL τ [] := fun _ h => nomatch h
  refine lv_iload_n (i := 0) hx hb dJ1_canEncode_0 rfl (lv_at hl 0 rfl) ?_
  refine lv_if_lt (tgt := 15) hx hb dJ1_canEncode_1 (by decide) (fun q => absurd q h0) (fun _ => ?_)
  refine lv_iload_n (i := 0) hx hb dJ1_canEncode_4 rfl (lv_at hl 0 rfl) ?_
  refine lv_sipush (v := 255) hx hb dJ1_canEncode_5 rfl ?_
  refine lv_icmp_gt (tgt := 15) hx hb dJ1_canEncode_8 (by decide) (fun q => absurd q h1) (fun _ => ?_)
  refine lv_iconst (v := 1) hx hb dJ1_canEncode_11 rfl ?_
  refine lv_goto (tgt := 16) hx hb dJ1_canEncode_12 (by decide) ?_
  exact s_iret hT hf dJ1_canEncode_16 rfl rfl
set_option maxRecDepth 100000 in
set_option maxHeartbeats 4000000 in
theorem s_canEncode0 (hZ : zSt l Z) {a : Int32} (h : a < 0 ∨ 255 < a) : sCt l Z mJ1_canEncode 0 [.int a] (.int 0) := by
  refine sCt_of hZ mpJ1_canEncode (Nat.le_of_ble_eq_true rfl) (lv := [(0, .int a)]) rfl (fun τ ls hY hl => ?_)
  have hT := hY.1
  have hB : zB Z τ.2.2.2.2.1.heap := by
    obtain ⟨hT, el, eZ⟩ := hY
    subst el; subst eZ
    obtain ⟨_, _, _, _, _, _, _, _, _, _, hB, _⟩ := hT
    exact hB
  have hx := hT.1
  have hb := hT.2.1
  have hf : sL τ [] := fun _ h => nomatch h
  refine lv_iload_n (i := 0) hx hb dJ1_canEncode_0 rfl (lv_at hl 0 rfl) ?_
  refine lv_if_lt (tgt := 15) hx hb dJ1_canEncode_1 (by decide) (fun _ => ?_) (fun h0 => ?_)
  · refine lv_iconst (v := 0) hx hb dJ1_canEncode_15 rfl ?_
    exact s_iret hT hf dJ1_canEncode_16 rfl rfl
  · refine lv_iload_n (i := 0) hx hb dJ1_canEncode_4 rfl (lv_at hl 0 rfl) ?_
    refine lv_sipush (v := 255) hx hb dJ1_canEncode_5 rfl ?_
    refine lv_icmp_gt (tgt := 15) hx hb dJ1_canEncode_8 (by decide) (fun _ => ?_) (fun h1 => absurd (h.resolve_left h0) h1)
    refine lv_iconst (v := 0) hx hb dJ1_canEncode_15 rfl ?_
    exact s_iret hT hf dJ1_canEncode_16 rfl rfl
set_option maxRecDepth 100000 in
set_option maxHeartbeats 4000000 in
theorem s_indexOfChar (hZ : zSt l Z) {sa sv : Nat} (hS : zStr (zA Z) sa sv Z.1 Z.1.heap) {n : Nat} (hn : n < 256) : sCt l Z mJ1_indexOfChar 0 [.ref sv, .int (nI n), .int 0, .int 15] (.int (ixF (nI n) ltrs 0)) := by
  refine sCt_of hZ mpJ1_indexOfChar (Nat.le_of_ble_eq_true rfl) (lv := [(0, .ref sv), (1, .int (nI n)), (2, .int 0), (3, .int 15)]) rfl (fun τ ls hY hl => ?_)
  have hT := hY.1
  have hB : zB Z τ.2.2.2.2.1.heap := by
    obtain ⟨hT, el, eZ⟩ := hY
    subst el; subst eZ
    obtain ⟨_, _, _, _, _, _, _, _, _, _, hB, _⟩ := hT
    exact hB
  have hx := hT.1
  have hb := hT.2.1
  have hf : sL τ [] := fun _ h => nomatch h
  obtain ⟨s1, s2, s3, s4, s5⟩ := zStr.at hY hS hB
  have loop : ∀ (r : List Int32) (k : Nat), k + r.length = 15 → ltrs.drop k = r → ∀ ls : Array Slot, lv_has ls 6 [(5, .int (nI k)), (4, .int (nI n).toInt8.toInt32), (0, .ref sv), (1, .int (nI n)), (2, .int 0), (3, .int 15)] → sK τ (sFn τ (.int (ixF (nI n) r k))) [] 7 ls [] := by
    intro r
    induction r with
    | nil =>
      intro k hk _ ls hl
      simp only [List.length_nil, Nat.add_zero] at hk
      subst hk
      refine lv_iload (i := 5) hx hb dJ1_indexOfChar_7 (lv_at hl 0 rfl) ?_
      refine lv_iload_n (i := 3) hx hb dJ1_indexOfChar_9 rfl (lv_at hl 5 rfl) ?_
      refine lv_icmp_ge (tgt := 31) hx hb dJ1_indexOfChar_10 (by decide) (fun _ => ?_) (fun q => absurd (by decide) q)
      refine lv_iconst (v := -1) hx hb dJ1_indexOfChar_31 rfl ?_
      exact s_iret hT hf dJ1_indexOfChar_32 rfl rfl
    | cons b r ih =>
      intro k hk hr ls hl
      rw [List.length_cons] at hk
      have hg : ltrs[k]? = some b := by rw [← List.head?_drop, hr]; rfl
      have hr2 : ltrs.drop (k + 1) = r := by rw [← List.tail_drop, hr]; rfl
      have hm : b ∈ ltrs := List.mem_of_getElem? hg
      refine lv_iload (i := 5) hx hb dJ1_indexOfChar_7 (lv_at hl 0 rfl) ?_
      refine lv_iload_n (i := 3) hx hb dJ1_indexOfChar_9 rfl (lv_at hl 5 rfl) ?_
      refine lv_icmp_ge (tgt := 31) hx hb dJ1_indexOfChar_10 (by decide) (fun q => absurd q (Int32.not_le.mpr (nI_lt (a := k) (b := 15) (by omega) (by decide)))) (fun _ => ?_)
      refine lv_aload_n (i := 0) hx hb dJ1_indexOfChar_13 rfl (lv_at hl 2 rfl) ?_
      refine lv_iload (i := 5) hx hb dJ1_indexOfChar_14 (lv_at hl 0 rfl) ?_
      refine va_tb hx hb s4 hf.S (i := nI k) (zix_in (zix_nI (by omega) (by decide))) (v := .int b) (by rw [nI_clamp (by omega), List.getD_eq_getElem?_getD, hg]; rfl) dJ1_indexOfChar_16 ?_
      refine lv_iload (i := 4) hx hb dJ1_indexOfChar_17 (lv_at hl 1 rfl) ?_
      unfold ixF
      by_cases hq : b = nI n
      · rw [if_pos hq]
        refine lv_icmp_ne (tgt := 25) hx hb dJ1_indexOfChar_19 (by decide) (fun q => absurd ((ltr_b n hn b hm).mpr hq.symm).symm q) (fun _ => ?_)
        refine lv_iload (i := 5) hx hb dJ1_indexOfChar_22 (lv_at hl 0 rfl) ?_
        exact s_iret hT hf dJ1_indexOfChar_24 rfl rfl
      · rw [if_neg hq]
        refine lv_icmp_ne (tgt := 25) hx hb dJ1_indexOfChar_19 (by decide) (fun _ => ?_) (fun q => absurd ((ltr_b n hn b hm).mp q.symm).symm hq)
        refine lv_iinc hx hb dJ1_indexOfChar_25 hl (k := 0) rfl (v := nI (k + 1)) (nI_inc _) (by decide) rfl (fun ls2 hl2 => ?_)
        refine lv_goto (tgt := 7) hx hb dJ1_indexOfChar_28 (by decide) ?_
        exact ih (k + 1) (by omega) hr2 ls2 hl2
  refine lv_iload_n (i := 1) hx hb dJ1_indexOfChar_0 rfl (lv_at hl 1 rfl) ?_
  refine lv_i2b (v := (nI n).toInt8.toInt32) hx hb dJ1_indexOfChar_1 rfl ?_
  refine lv_istore hx hb dJ1_indexOfChar_2 hl (by decide) rfl (fun ls1 hl1 => ?_)
  refine lv_iload_n (i := 2) hx hb dJ1_indexOfChar_4 rfl (lv_at hl1 3 rfl) ?_
  refine lv_istore hx hb dJ1_indexOfChar_5 hl1 (by decide) rfl (fun ls2 hl2 => ?_)
  exact loop ltrs 0 rfl rfl ls2 hl2

set_option maxRecDepth 100000 in
set_option maxHeartbeats 4000000 in
theorem s_indexOf (hZ : zSt l Z) {sa sv : Nat} (hS : zStr (zA Z) sa sv Z.1 Z.1.heap) (a : Int32) : sCt l Z mJ1_indexOf 1 [.ref sv, .int a, .int 0, .int 15] (.int (ixF a ltrs 0)) := by
  refine sCt_of hZ mpJ1_indexOf (Nat.le_of_ble_eq_true rfl) (lv := [(0, .ref sv), (1, .int a), (2, .int 0), (3, .int 15)]) rfl (fun τ ls hY hl => ?_)
  have hT := hY.1
  have hB : zB Z τ.2.2.2.2.1.heap := by
    obtain ⟨hT, el, eZ⟩ := hY
    subst el; subst eZ
    obtain ⟨_, _, _, _, _, _, _, _, _, _, hB, _⟩ := hT
    exact hB
  have hx := hT.1
  have hb := hT.2.1
  have hf : sL τ [] := fun _ h => nomatch h
  obtain ⟨s1, s2, s3, s4, s5⟩ := zStr.at hY hS hB
  refine lv_iload_n (i := 1) hx hb dJ1_indexOf_0 rfl (lv_at hl 1 rfl) ?_
  by_cases hq : a < 0 ∨ 255 < a
  · have e : ixF a ltrs 0 = -1 := ixF_no ltrs 0 (fun h => hq.elim (ltr_255 a h).1 (ltr_255 a h).2)
    rw [e]
    refine s_callS hY dJ1_indexOf_1 mfJ1_canEncode mtJ1_canEncode kj88 (s_canEncode0 hZ hq) hB rfl (by decide) (rest := []) rfl hl.1 (by decide) (Nat.le_refl _) (Nat.le_refl _) hf (fun locs hf => ?_)
    refine lv_if_ne (tgt := 9) hx hb dJ1_indexOf_4 (by decide) (fun q => absurd rfl q) (fun _ => ?_)
    refine lv_iconst (v := -1) hx hb dJ1_indexOf_7 rfl ?_
    exact s_iret hT hf dJ1_indexOf_8 rfl rfl
  · have h0 : ¬ a < 0 := fun q => hq (Or.inl q)
    have h1 : ¬ 255 < a := fun q => hq (Or.inr q)
    obtain ⟨n, hn, rfl⟩ : ∃ n, n < 256 ∧ a = nI n := by
      obtain ⟨n, hn, e⟩ := nI_of h0
      refine ⟨n, ?_, e⟩
      rcases Nat.lt_or_ge n 256 with q | q
      · exact q
      · exact absurd (by rw [e]; exact nI_lt (a := 255) (b := n) (by omega) hn) h1
    refine s_callS hY dJ1_indexOf_1 mfJ1_canEncode mtJ1_canEncode kj88 (s_canEncode1 hZ h0 h1) hB rfl (by decide) (rest := []) rfl hl.1 (by decide) (Nat.le_refl _) (Nat.le_refl _) hf (fun locs hf => ?_)
    refine lv_if_ne (tgt := 9) hx hb dJ1_indexOf_4 (by decide) (fun _ => ?_) (fun q => absurd q (by decide))
    refine lv_iload_n (i := 2) hx hb dJ1_indexOf_9 rfl (lv_at hl 2 rfl) ?_
    refine lv_iconst (v := 0) hx hb dJ1_indexOf_10 rfl ?_
    refine va_mmax hx hb (by rw [hT.2.2.1]; exact hl.1.symm) hT.own (hT.ws _ kj92) (hT.ws _ mt_mmax) (hT.ws _ mth0) (hT.ws _ mc_mmax) (by obtain ⟨_, _, _, _, _, _, _, _, _, _, _, hfr, hlo, _⟩ := hT; unfold zfr at hfr; omega) (by obtain ⟨_, _, _, _, _, _, _, _, _, _, _, hfr, hlo, _⟩ := hT; unfold zlo at hlo; simp only [List.map_nil, List.sum_nil]; omega) (Nat.zero_le _) (Nat.zero_le _) dJ1_indexOf_11 ?_
    refine lv_istore_n hx hb dJ1_indexOf_14 rfl hl (by decide) rfl (fun ls1 hl1 => ?_)
    refine lv_iload_n (i := 3) hx hb dJ1_indexOf_15 rfl (lv_at hl1 3 rfl) ?_
    refine lv_aload_n (i := 0) hx hb dJ1_indexOf_16 rfl (lv_at hl1 1 rfl) ?_
    refine va_tlen hx hb s4 hf.S (v := 15) rfl dJ1_indexOf_17 ?_
    refine va_mmin hx hb (by rw [hT.2.2.1]; exact hl1.1.symm) hT.own (hT.ws _ kj38) (hT.ws _ mt_mmin) (hT.ws _ mth0) (hT.ws _ mc_mmin) (by obtain ⟨_, _, _, _, _, _, _, _, _, _, _, hfr, hlo, _⟩ := hT; unfold zfr at hfr; omega) (by obtain ⟨_, _, _, _, _, _, _, _, _, _, _, hfr, hlo, _⟩ := hT; unfold zlo at hlo; simp only [List.map_nil, List.sum_nil]; omega) (Nat.zero_le _) (Nat.zero_le _) dJ1_indexOf_18 ?_
    refine lv_istore_n hx hb dJ1_indexOf_21 rfl hl1 (by decide) rfl (fun ls2 hl2 => ?_)
    refine lv_iload_n (i := 2) hx hb dJ1_indexOf_22 rfl (lv_at hl2 1 rfl) ?_
    refine lv_iload_n (i := 3) hx hb dJ1_indexOf_23 rfl (lv_at hl2 0 rfl) ?_
    refine lv_icmp_lt (tgt := 29) hx hb dJ1_indexOf_24 (by decide) (fun _ => ?_) (fun q => absurd (by decide) q)
    refine lv_aload_n (i := 0) hx hb dJ1_indexOf_29 rfl (lv_at hl2 2 rfl) ?_
    refine lv_iload_n (i := 1) hx hb dJ1_indexOf_30 rfl (lv_at hl2 3 rfl) ?_
    refine lv_iload_n (i := 2) hx hb dJ1_indexOf_31 rfl (lv_at hl2 1 rfl) ?_
    refine lv_iload_n (i := 3) hx hb dJ1_indexOf_32 rfl (lv_at hl2 0 rfl) ?_
    refine s_callS hY dJ1_indexOf_33 mfJ1_indexOfChar mtJ1_indexOfChar kj95 (s_indexOfChar hZ hS hn) hB rfl (by decide) (rest := []) rfl hl2.1 (by decide) (Nat.le_refl _) (Nat.le_refl _) hf (fun locs hf => ?_)
    exact s_iret hT hf dJ1_indexOf_36 rfl rfl
set_option maxRecDepth 100000 in
set_option maxHeartbeats 4000000 in
theorem s_indexOf2 (hZ : zSt l Z) {sa sv : Nat} (hS : zStr (zA Z) sa sv Z.1 Z.1.heap) (a : Int32) : sCt l Z mJ0_indexOf2 2 [.ref sa, .int a, .int 0] (.int (ixF a ltrs 0)) := by
  refine sCt_of hZ mpJ0_indexOf2 (Nat.le_of_ble_eq_true rfl) (lv := [(0, .ref sa), (1, .int a), (2, .int 0)]) rfl (fun τ ls hY hl => ?_)
  have hT := hY.1
  have hB : zB Z τ.2.2.2.2.1.heap := by
    obtain ⟨hT, el, eZ⟩ := hY
    subst el; subst eZ
    obtain ⟨_, _, _, _, _, _, _, _, _, _, hB, _⟩ := hT
    exact hB
  have hx := hT.1
  have hb := hT.2.1
  have hf : sL τ [] := fun _ h => nomatch h
  obtain ⟨s1, s2, s3, s4, s5⟩ := zStr.at hY hS hB
  refine lv_aload_n (i := 0) hx hb dJ0_indexOf2_0 rfl (lv_at hl 0 rfl) ?_
  refine s_callV hY dJ0_indexOf2_1 mfJ0_isLatin1 miJ0_isLatin1 msJ0_isLatin1 kj492 (by obtain ⟨cell, q1, q2, q3, -⟩ := s1; exact ⟨cell, q1, q2, q3⟩) (s_isLatin1 hZ hS) hB (as := []) rfl (by decide) (rest := []) rfl hl.1 (by decide) (Nat.le_refl _) (Nat.le_refl _) hf (fun locs hf => ?_)
  refine lv_if_eq (tgt := 23) hx hb dJ0_indexOf2_4 (by decide) (fun q => absurd q (by decide)) (fun _ => ?_)
  refine lv_aload_n (i := 0) hx hb dJ0_indexOf2_7 rfl (lv_at hl 0 rfl) ?_
  refine vk_getf hx hb s3 hf.S hT.own (hT.ws _ fj9) (fun _ q => q) dJ0_indexOf2_8 ?_
  refine lv_iload_n (i := 1) hx hb dJ0_indexOf2_11 rfl (lv_at hl 1 rfl) ?_
  refine lv_iload_n (i := 2) hx hb dJ0_indexOf2_12 rfl (lv_at hl 2 rfl) ?_
  refine lv_aload_n (i := 0) hx hb dJ0_indexOf2_13 rfl (lv_at hl 0 rfl) ?_
  refine s_callV hY dJ0_indexOf2_14 mfJ0_length miJ0_length msJ0_length kj505 (by obtain ⟨cell, q1, q2, q3, -⟩ := s1; exact ⟨cell, q1, q2, q3⟩) (s_length hZ hS) hB (as := []) rfl (by decide) (rest := [.int 0, .int a, .ref sv]) rfl hl.1 (Nat.le_of_ble_eq_true rfl) (Nat.le_refl _) (Nat.le_refl _) hf (fun locs hf => ?_)
  refine s_callS hY dJ0_indexOf2_17 mfJ1_indexOf mtJ1_indexOf kj637 (s_indexOf hZ hS a) hB rfl (by decide) (rest := []) rfl hl.1 (by decide) (Nat.le_refl _) (Nat.le_refl _) hf (fun locs hf => ?_)
  refine lv_goto (tgt := 36) hx hb dJ0_indexOf2_20 (by decide) ?_
  exact s_iret hT hf dJ0_indexOf2_36 rfl rfl
set_option maxRecDepth 100000 in
set_option maxHeartbeats 4000000 in
theorem s_indexOf1 (hZ : zSt l Z) {sa sv : Nat} (hS : zStr (zA Z) sa sv Z.1 Z.1.heap) (a : Int32) : sCt l Z mJ0_indexOf1 3 [.ref sa, .int a] (.int (ixF a ltrs 0)) := by
  refine sCt_of hZ mpJ0_indexOf1 (Nat.le_of_ble_eq_true rfl) (lv := [(0, .ref sa), (1, .int a)]) rfl (fun τ ls hY hl => ?_)
  have hT := hY.1
  have hB : zB Z τ.2.2.2.2.1.heap := by
    obtain ⟨hT, el, eZ⟩ := hY
    subst el; subst eZ
    obtain ⟨_, _, _, _, _, _, _, _, _, _, hB, _⟩ := hT
    exact hB
  have hx := hT.1
  have hb := hT.2.1
  have hf : sL τ [] := fun _ h => nomatch h
  obtain ⟨s1, s2, s3, s4, s5⟩ := zStr.at hY hS hB
  refine lv_aload_n (i := 0) hx hb dJ0_indexOf1_0 rfl (lv_at hl 0 rfl) ?_
  refine lv_iload_n (i := 1) hx hb dJ0_indexOf1_1 rfl (lv_at hl 1 rfl) ?_
  refine lv_iconst (v := 0) hx hb dJ0_indexOf1_2 rfl ?_
  refine s_callV hY dJ0_indexOf1_3 mfJ0_indexOf2 miJ0_indexOf2 msJ0_indexOf2 kj633 (by obtain ⟨cell, q1, q2, q3, -⟩ := s1; exact ⟨cell, q1, q2, q3⟩) (s_indexOf2 hZ hS a) hB (as := [.int a, .int 0]) rfl (by decide) (rest := []) rfl hl.1 (by decide) (Nat.le_refl _) (Nat.le_refl _) hf (fun locs hf => ?_)
  exact s_iret hT hf dJ0_indexOf1_6 rfl rfl
end SJ
section SJJ
variable {l : Launch} {Z : zZ} {τ : zT} {M : zM} {kk mc ms : Nat} {F : State → Prop} {pc : Nat} {L : List (Option Value)} {st : List Value} {μ : zMem} {c k : Nat}
theorem J_indexOf (hZ : zSt l Z) (hY : zCy l Z τ M kk mc ms) (hSs : zSs Z) (hM : M.1.cls = "Daemonsheet") {a : Int32} (d0 : decode M.2.1 pc = .ok (.ldc 56, 2)) (d2 : decode M.2.1 (pc + 2) = .ok (.iload_n 1, 1)) (d3 : decode M.2.1 (pc + 2 + 1) = .ok (.invokevirtual 58, 3)) (ha : L[1]? = some (some (.int a))) (hL : L.length = M.2.2.1) (h8 : (st.map fun v => v.category).sum ≤ 8) (hkk : 3 < kk) (hc : c ≤ mc) (hk : k ≤ ms)
    (h : zJ τ F (pc + 2 + 1 + 3) L (.int (ixF a ltrs 0) :: st) μ c k) : zJ τ F pc L st μ c k := by
  obtain ⟨sa, sv, hR, hS⟩ := hSs
  have hT := hY.1
  intro ad H locs ls hw hLo hst
  have hBH : zB Z H := by have := zHS.B hT hw; rw [hY.2.2] at this; exact this
  have hR2 : vk_R "Daemonsheet" 56 "crlmni+-*<>=()," sa τ.2.2.2.2.1 := by
    obtain ⟨hT, el, eZ⟩ := hY
    subst el; subst eZ
    obtain ⟨_, _, _, _, _, _, _, _, _, hW, _, _⟩ := hT
    exact hR.warm hW
  obtain ⟨s1, -, -, -, -⟩ := zStr.at hY hS hBH
  refine va_ldcS hT.1 hT.2.1 (by rw [← hM]; exact hT.own) hR2 d0 ?_
  refine lv_iload_n (i := 1) hT.1 hT.2.1 d2 rfl (hLo.2.2 1 _ ha).1 ?_
  refine s_callV hY d3 mfJ0_indexOf1 miJ0_indexOf1 msJ0_indexOf1 (by rw [hM]; exact kj58) (by obtain ⟨cell, q1, q2, q3, -⟩ := s1; exact ⟨cell, q1, q2, q3⟩) (s_indexOf1 hZ hS a) hBH (as := [.int a]) rfl hkk (rest := st.map (ztv ad)) rfl (hLo.1.trans hL) (by rw [zcat8]; exact h8) hc hk hw.2.1.2.2 (fun locs' hf => ?_)
  exact h ad H locs' ls ⟨hw.1, ⟨hw.2.1.1, hw.2.1.2.1, hf⟩, hw.2.2⟩ hLo (zoks_cons (zok_int _ _) hst)
end SJJ


