/-! ===== the law's own walk: place 0 holds the script, which no world has ===== -/
def zJL (b0 : Nat) (τ : zT) (F : State → Prop) (pc : Nat) (L : List (Option Value)) (st : List Value) (μ : zMem) (c k : Nat) : Prop :=
  ∀ (ad : Nat → Nat) (H : Heap) (locs : List Loc) (ls : Array Slot), zHS τ ad μ H locs → zLo ad (zN μ) L ls → ls[0]? = some (.val (.ref b0)) → zoks (zN μ) st → zW τ H locs c k F (zF0 τ pc ls (st.map (ztv ad)))
theorem zL0 {ls' : Array Slot} {n i b0 : Nat} {v : Value} {lv : List (Nat × Value)} (hi : 1 < i) (h' : lv_has ls' n ((i, v) :: ((0, .ref b0) :: lv).filter (fun q => !(q.1 == i) && !(q.1 + 1 == i && q.2.category == 2)))) : ls'[0]? = some (.val (.ref b0)) ∧ lv_has ls' n ((i, v) :: lv.filter (fun q => !(q.1 == i) && !(q.1 + 1 == i && q.2.category == 2))) := by
  have h0 : ((0 == i) : Bool) = false := beq_eq_false_iff_ne.mpr (by omega)
  have h1 : ((0 + 1 == i) : Bool) = false := beq_eq_false_iff_ne.mpr (by omega)
  have e : ((0, Value.ref b0) :: lv).filter (fun q => !(q.1 == i) && !(q.1 + 1 == i && q.2.category == 2)) = (0, Value.ref b0) :: lv.filter (fun q => !(q.1 == i) && !(q.1 + 1 == i && q.2.category == 2)) := by
    rw [List.filter_cons_of_pos]
    simp only [h0, h1, Bool.not_false, Bool.false_and, Bool.and_self]
  rw [e] at h'
  refine ⟨h'.2.2 (0, .ref b0) (List.mem_cons_of_mem _ List.mem_cons_self), h'.1, h'.2.1, fun q hq => ?_⟩
  rcases List.mem_cons.mp hq with rfl | hq
  · exact h'.2.2 _ List.mem_cons_self
  · exact h'.2.2 _ (List.mem_cons_of_mem _ (List.mem_cons_of_mem _ hq))
theorem zLo_has0 {ad : Nat → Nat} {n b0 : Nat} {L : List (Option Value)} {ls : Array Slot} (h : zLo ad n L ls) (h0 : ls[0]? = some (.val (.ref b0))) : lv_has ls L.length ((0, .ref b0) :: zlv ad L) := by
  have h1 := zLo_has h
  refine ⟨h1.1, h1.2.1, fun q hq => ?_⟩
  rcases List.mem_cons.mp hq with rfl | hq
  · exact h0
  · exact h1.2.2 q hq
section ZL
variable {b0 : Nat} {τ : zT} {M : zM} {kk mc ms : Nat} {F : State → Prop} {pc : Nat} {L : List (Option Value)} {st : List Value} {μ : zMem} {c k : Nat}
theorem zJL.wide {c' k' : Nat} (h : zJL b0 τ F pc L st μ c' k') (hc : c ≤ c') (hk : k ≤ k') : zJL b0 τ F pc L st μ c k := fun ad H locs ls hw hL h0 hst => W.widen hc hk (h ad H locs ls hw hL h0 hst)
theorem Q_topil {x y : Int32} (e : x = y) (h : zJL b0 τ F pc L (.int y :: st) μ c k) : zJL b0 τ F pc L (.int x :: st) μ c k := e ▸ h
theorem Q_st {st' : List Value} (h : zJL b0 τ F pc L st' μ c k) (e : st = st') : zJL b0 τ F pc L st μ c k := e ▸ h
theorem Q_L {L' : List (Option Value)} (hs : zsub L L') (h : zJL b0 τ F pc L' st μ c k) : zJL b0 τ F pc L st μ c k := fun ad H locs ls hw hL h0 hst => h ad H locs ls hw (zLo_sub hL hs) h0 hst
theorem Q_iconst (hT : zCx τ M kk mc ms) {n : Int} {v : Int32} (hd : decode M.2.1 pc = .ok (.iconst n, 1)) (hv : Int32.ofInt n = v) (h : zJL b0 τ F (pc + 1) L (.int v :: st) μ c k) : zJL b0 τ F pc L (st) μ c k := by
  intro ad H locs ls hw hL hz0 hst
  refine lv_iconst hT.1 hT.2.1 hd hv ?_
  exact h ad H locs ls hw hL hz0 (zoks_cons (zok_int _ _) hst)
theorem Q_bipush (hT : zCx τ M kk mc ms) {n : Int} {v : Int32} (hd : decode M.2.1 pc = .ok (.bipush n, 2)) (hv : (Int8.ofInt n).toInt32 = v) (h : zJL b0 τ F (pc + 2) L (.int v :: st) μ c k) : zJL b0 τ F pc L (st) μ c k := by
  intro ad H locs ls hw hL hz0 hst
  refine lv_bipush hT.1 hT.2.1 hd hv ?_
  exact h ad H locs ls hw hL hz0 (zoks_cons (zok_int _ _) hst)
theorem Q_lconst (hT : zCx τ M kk mc ms) {n : Fin 2} {v : Int64} (hd : decode M.2.1 pc = .ok (.lconst n, 1)) (hv : Int64.ofNat (n : Nat) = v) (h : zJL b0 τ F (pc + 1) L (.long v :: st) μ c k) : zJL b0 τ F pc L (st) μ c k := by
  intro ad H locs ls hw hL hz0 hst
  refine lv_lconst hT.1 hT.2.1 hd hv ?_
  exact h ad H locs ls hw hL hz0 (zoks_cons (zok_long _ _) hst)
theorem Q_iadd (hT : zCx τ M kk mc ms) {x y : Int32} (hd : decode M.2.1 pc = .ok (.iadd, 1)) (h : zJL b0 τ F (pc + 1) L (.int (x + y) :: st) μ c k) : zJL b0 τ F pc L (.int y :: .int x :: st) μ c k := by
  intro ad H locs ls hw hL hz0 hst
  refine lv_iadd hT.1 hT.2.1 hd ?_
  have hst := zoks_tl hst
  have hst := zoks_tl hst
  exact h ad H locs ls hw hL hz0 (zoks_cons (zok_int _ _) hst)
theorem Q_isub (hT : zCx τ M kk mc ms) {x y : Int32} (hd : decode M.2.1 pc = .ok (.isub, 1)) (h : zJL b0 τ F (pc + 1) L (.int (x - y) :: st) μ c k) : zJL b0 τ F pc L (.int y :: .int x :: st) μ c k := by
  intro ad H locs ls hw hL hz0 hst
  refine lv_isub hT.1 hT.2.1 hd ?_
  have hst := zoks_tl hst
  have hst := zoks_tl hst
  exact h ad H locs ls hw hL hz0 (zoks_cons (zok_int _ _) hst)
theorem Q_iand (hT : zCx τ M kk mc ms) {x y : Int32} (hd : decode M.2.1 pc = .ok (.iand, 1)) (h : zJL b0 τ F (pc + 1) L (.int (x &&& y) :: st) μ c k) : zJL b0 τ F pc L (.int y :: .int x :: st) μ c k := by
  intro ad H locs ls hw hL hz0 hst
  refine lv_iand hT.1 hT.2.1 hd ?_
  have hst := zoks_tl hst
  have hst := zoks_tl hst
  exact h ad H locs ls hw hL hz0 (zoks_cons (zok_int _ _) hst)
theorem Q_i2l (hT : zCx τ M kk mc ms) {x : Int32} (hd : decode M.2.1 pc = .ok (.i2l, 1)) (h : zJL b0 τ F (pc + 1) L (.long x.toInt64 :: st) μ c k) : zJL b0 τ F pc L (.int x :: st) μ c k := by
  intro ad H locs ls hw hL hz0 hst
  refine lv_i2l hT.1 hT.2.1 hd rfl ?_
  have hst := zoks_tl hst
  exact h ad H locs ls hw hL hz0 (zoks_cons (zok_long _ _) hst)
theorem Q_i2c (hT : zCx τ M kk mc ms) {x : Int32} (hd : decode M.2.1 pc = .ok (.i2c, 1)) (h : zJL b0 τ F (pc + 1) L (.int (x.toUInt32 % 65536).toInt32 :: st) μ c k) : zJL b0 τ F pc L (.int x :: st) μ c k := by
  intro ad H locs ls hw hL hz0 hst
  refine lv_i2c hT.1 hT.2.1 hd rfl ?_
  have hst := zoks_tl hst
  exact h ad H locs ls hw hL hz0 (zoks_cons (zok_int _ _) hst)
theorem Q_lcmp (hT : zCx τ M kk mc ms) {x y : Int64} (hd : decode M.2.1 pc = .ok (.lcmp, 1)) (h : zJL b0 τ F (pc + 1) L (.int (lg_cmp x y) :: st) μ c k) : zJL b0 τ F pc L (.long y :: .long x :: st) μ c k := by
  intro ad H locs ls hw hL hz0 hst
  refine W.lcmp hT.1 hT.2.1 hd ?_
  have hst := zoks_tl hst
  have hst := zoks_tl hst
  exact h ad H locs ls hw hL hz0 (zoks_cons (zok_int _ _) hst)
theorem Q_if_eq (hT : zCx τ M kk mc ms) {x : Int32} {off : Int} {tgt : Nat} (hd : decode M.2.1 pc = .ok (.ifCond .eq off, 3)) (ht : (pc : Int) + off = (tgt : Int)) (h1 : x = 0 → zJL b0 τ F tgt L st μ c k) (h2 : ¬ (x = 0) → zJL b0 τ F (pc + 3) L st μ c k) : zJL b0 τ F pc L (.int x :: st) μ c k := by
  intro ad H locs ls hw hL hz0 hst
  exact lv_if_eq hT.1 hT.2.1 hd ht (fun q => h1 q ad H locs ls hw hL hz0 (zoks_tl hst)) (fun q => h2 q ad H locs ls hw hL hz0 (zoks_tl hst))
theorem Q_if_ne (hT : zCx τ M kk mc ms) {x : Int32} {off : Int} {tgt : Nat} (hd : decode M.2.1 pc = .ok (.ifCond .ne off, 3)) (ht : (pc : Int) + off = (tgt : Int)) (h1 : ¬ x = 0 → zJL b0 τ F tgt L st μ c k) (h2 : x = 0 → zJL b0 τ F (pc + 3) L st μ c k) : zJL b0 τ F pc L (.int x :: st) μ c k := by
  intro ad H locs ls hw hL hz0 hst
  exact lv_if_ne hT.1 hT.2.1 hd ht (fun q => h1 q ad H locs ls hw hL hz0 (zoks_tl hst)) (fun q => h2 q ad H locs ls hw hL hz0 (zoks_tl hst))
theorem Q_icmp_eq (hT : zCx τ M kk mc ms) {x y : Int32} {off : Int} {tgt : Nat} (hd : decode M.2.1 pc = .ok (.if_icmp .eq off, 3)) (ht : (pc : Int) + off = (tgt : Int)) (h1 : x = y → zJL b0 τ F tgt L st μ c k) (h2 : ¬ (x = y) → zJL b0 τ F (pc + 3) L st μ c k) : zJL b0 τ F pc L (.int y :: .int x :: st) μ c k := by
  intro ad H locs ls hw hL hz0 hst
  exact lv_icmp_eq hT.1 hT.2.1 hd ht (fun q => h1 q ad H locs ls hw hL hz0 (zoks_tl (zoks_tl hst))) (fun q => h2 q ad H locs ls hw hL hz0 (zoks_tl (zoks_tl hst)))
theorem Q_icmp_gt (hT : zCx τ M kk mc ms) {x y : Int32} {off : Int} {tgt : Nat} (hd : decode M.2.1 pc = .ok (.if_icmp .gt off, 3)) (ht : (pc : Int) + off = (tgt : Int)) (h1 : x > y → zJL b0 τ F tgt L st μ c k) (h2 : ¬ (x > y) → zJL b0 τ F (pc + 3) L st μ c k) : zJL b0 τ F pc L (.int y :: .int x :: st) μ c k := by
  intro ad H locs ls hw hL hz0 hst
  exact lv_icmp_gt hT.1 hT.2.1 hd ht (fun q => h1 q ad H locs ls hw hL hz0 (zoks_tl (zoks_tl hst))) (fun q => h2 q ad H locs ls hw hL hz0 (zoks_tl (zoks_tl hst)))
theorem Q_icmp_ne (hT : zCx τ M kk mc ms) {x y : Int32} {off : Int} {tgt : Nat} (hd : decode M.2.1 pc = .ok (.if_icmp .ne off, 3)) (ht : (pc : Int) + off = (tgt : Int)) (h1 : ¬ x = y → zJL b0 τ F tgt L st μ c k) (h2 : x = y → zJL b0 τ F (pc + 3) L st μ c k) : zJL b0 τ F pc L (.int y :: .int x :: st) μ c k := by
  intro ad H locs ls hw hL hz0 hst
  exact lv_icmp_ne hT.1 hT.2.1 hd ht (fun q => h1 q ad H locs ls hw hL hz0 (zoks_tl (zoks_tl hst))) (fun q => h2 q ad H locs ls hw hL hz0 (zoks_tl (zoks_tl hst)))
theorem Q_goto (hT : zCx τ M kk mc ms) {off : Int} {tgt : Nat} (hd : decode M.2.1 pc = .ok (.goto off, 3)) (ht : (pc : Int) + off = (tgt : Int)) (h : zJL b0 τ F tgt L st μ c k) : zJL b0 τ F pc L st μ c k := by
  intro ad H locs ls hw hL hz0 hst
  exact lv_goto hT.1 hT.2.1 hd ht (h ad H locs ls hw hL hz0 hst)
theorem Q_iload (hT : zCx τ M kk mc ms) {i : Nat} {x : Int32} (hd : decode M.2.1 pc = .ok (.iload i, 2)) (hl : L[i]? = some (some (.int x))) (h : zJL b0 τ F (pc + 2) L (.int x :: st) μ c k) : zJL b0 τ F pc L st μ c k := by
  intro ad H locs ls hw hL hz0 hst
  exact lv_iload hT.1 hT.2.1 hd (hL.2.2 i _ hl).1 (h ad H locs ls hw hL hz0 (zoks_cons (hL.2.2 i _ hl).2 hst))
theorem Q_aload_n (hT : zCx τ M kk mc ms) {q : Fin 4} {i : Nat} {x : Nat} (hd : decode M.2.1 pc = .ok (.aload_n q, 1)) (hi : (q : Nat) = i) (hl : L[i]? = some (some (.ref x))) (h : zJL b0 τ F (pc + 1) L (.ref x :: st) μ c k) : zJL b0 τ F pc L st μ c k := by
  intro ad H locs ls hw hL hz0 hst
  exact lv_aload_n hT.1 hT.2.1 hd hi (hL.2.2 i _ hl).1 (h ad H locs ls hw hL hz0 (zoks_cons (hL.2.2 i _ hl).2 hst))
theorem Q_tableIn (hT : zCx τ M kk mc ms) {dflt lo hi : Int} {offs : Array Int} {len : Nat} {x : Int32} {off : Int} {tgt : Nat} (hd : decode M.2.1 pc = .ok (.tableswitch dflt lo hi offs, len)) (h1 : ¬ x.toInt < lo) (h2 : ¬ hi < x.toInt) (ho : offs[(x.toInt - lo).toNat]? = some off) (ht : (pc : Int) + off = (tgt : Int)) (h : zJL b0 τ F tgt L st μ c k) : zJL b0 τ F pc L (.int x :: st) μ c k := by
  intro ad H locs ls hw hL hz0 hst
  exact lv_tableIn hT.1 hT.2.1 hd h1 h2 ho ht (h ad H locs ls hw hL hz0 (zoks_tl hst))
theorem Q_tableOut (hT : zCx τ M kk mc ms) {dflt lo hi : Int} {offs : Array Int} {len : Nat} {x : Int32} {tgt : Nat} (hd : decode M.2.1 pc = .ok (.tableswitch dflt lo hi offs, len)) (h1 : x.toInt < lo ∨ hi < x.toInt) (ht : (pc : Int) + dflt = (tgt : Int)) (h : zJL b0 τ F tgt L st μ c k) : zJL b0 τ F pc L (.int x :: st) μ c k := by
  intro ad H locs ls hw hL hz0 hst
  exact lv_tableOut hT.1 hT.2.1 hd h1 ht (h ad H locs ls hw hL hz0 (zoks_tl hst))
theorem Q_dup (hT : zCx τ M kk mc ms) {v : Value} (hd : decode M.2.1 pc = .ok (.dup, 1)) (hv : v.category = 1) (h : zJL b0 τ F (pc + 1) L (v :: v :: st) μ c k) : zJL b0 τ F pc L (v :: st) μ c k := by
  intro ad H locs ls hw hL hz0 hst
  exact lv_dup hT.1 hT.2.1 hd (by rw [ztv_cat]; exact hv) (h ad H locs ls hw hL hz0 (zoks_cons (zoks_hd hst) hst))
theorem Q_istore (hT : zCx τ M kk mc ms) {i : Nat} {x : Int32} (hd : decode M.2.1 pc = .ok (.istore i, 2)) (hl : (i + 0 < L.length)) (h2 : 1 < i) (h : zJL b0 τ F (pc + 2) (zst1 L i (.int x)) st μ c k) : zJL b0 τ F pc L (.int x :: st) μ c k := by
  intro ad H locs ls hw hL hz0 hst
  exact lv_istore (lv := (0, .ref b0) :: zlv ad L) hT.1 hT.2.1 hd (zLo_has0 hL hz0) hl rfl (fun ls' h' => h ad H locs ls' hw (zLo_st1 (v := .int x) hL (zoks_hd hst) (zL0 h2 h').2) (zL0 h2 h').1 (zoks_tl hst))
theorem Q_iinc (hT : zCx τ M kk mc ms) {i : Nat} {n : Int} {x v : Int32} (hd : decode M.2.1 pc = .ok (.iinc i n, 3)) (h2 : 1 < i) (hl : L[i]? = some (some (.int x))) (hv : x + Int32.ofInt n = v) (h : zJL b0 τ F (pc + 3) (zst1 L i (.int v)) st μ c k) : zJL b0 τ F pc L st μ c k := by
  intro ad H locs ls hw hL hz0 hst
  obtain ⟨j, hj⟩ := List.getElem?_of_mem (zlv_mem (ad := ad) hl)
  exact lv_iinc (lv := (0, .ref b0) :: zlv ad L) (k := j + 1) hT.1 hT.2.1 hd (zLo_has0 hL hz0) (by rw [List.getElem?_cons_succ]; exact hj) hv (List.getElem?_eq_some_iff.mp hl).1 rfl (fun ls' h' => h ad H locs ls' hw (zLo_st1 (v := .int v) hL (zok_int _ _) (zL0 h2 h').2) (zL0 h2 h').1 hst)
/-- the script's length, and what stands in it -/
def zScr (b0 n : Nat) (xs : Nat → Int32) (τ : zT) : Prop := va_T .int b0 n (fun j => .int (xs j)) (zA τ.2.2.2.2.2.2.2.2.2.2.1) τ.2.2.2.2.1 τ.2.2.2.2.1.heap
theorem Q_slen (hT : zCx τ M kk mc ms) {n : Nat} {xs : Nat → Int32} (hX : zScr b0 n xs τ) (hd : decode M.2.1 pc = .ok (.aload_n 0, 1)) (hd2 : decode M.2.1 (pc + 1) = .ok (.arraylength, 1)) (h : zJL b0 τ F (pc + 1 + 1) L (.int (nI n) :: st) μ c k) : zJL b0 τ F pc L st μ c k := by
  intro ad H locs ls hw hL hz0 hst
  refine lv_aload_n (i := 0) hT.1 hT.2.1 hd rfl hz0 ?_
  refine va_tlen hT.1 hT.2.1 hX hw.2.1 (v := nI n) rfl hd2 ?_
  exact h ad H locs ls hw hL hz0 (zoks_cons (zok_int _ _) hst)
/-- script[i], script[i + j]: iload 4, a constant, iadd -/
theorem Q_s0 (hT : zCx τ M kk mc ms) {n i : Nat} {xs : Nat → Int32} (hX : zScr b0 n xs τ) (hi : i < n) (hn : n < 2147483648) (hL4 : L[4]? = some (some (.int (nI i)))) (hd : decode M.2.1 pc = .ok (.aload_n 0, 1)) (hd2 : decode M.2.1 (pc + 1) = .ok (.iload 4, 2)) (hd3 : decode M.2.1 (pc + 1 + 2) = .ok (.iaload, 1)) (h : zJL b0 τ F (pc + 1 + 2 + 1) L (.int (xs i) :: st) μ c k) : zJL b0 τ F pc L st μ c k := by
  intro ad H locs ls hw hL hz0 hst
  refine lv_aload_n (i := 0) hT.1 hT.2.1 hd rfl hz0 ?_
  refine lv_iload hT.1 hT.2.1 hd2 (hL.2.2 4 _ hL4).1 ?_
  refine va_ti hT.1 hT.2.1 hX hw.2.1 (i := nI i) (zix_in (zix_nI hi (by omega))) (v := .int (xs i)) (by rw [nI_clamp (by omega)]) hd3 ?_
  exact h ad H locs ls hw hL hz0 (zoks_cons (zok_int _ _) hst)
theorem Q_s (hT : zCx τ M kk mc ms) {n i : Nat} {m : Nat} {xs : Nat → Int32} (hX : zScr b0 n xs τ) (hi : i + m < n) (hm : m < 4) (hn : n < 2147483648) (hL4 : L[4]? = some (some (.int (nI i)))) (hd : decode M.2.1 pc = .ok (.aload_n 0, 1)) (hd2 : decode M.2.1 (pc + 1) = .ok (.iload 4, 2)) (hd3 : decode M.2.1 (pc + 1 + 2) = .ok (.iconst (m : Int), 1)) (hd4 : decode M.2.1 (pc + 1 + 2 + 1) = .ok (.iadd, 1)) (hd5 : decode M.2.1 (pc + 1 + 2 + 1 + 1) = .ok (.iaload, 1)) (h : zJL b0 τ F (pc + 1 + 2 + 1 + 1 + 1) L (.int (xs (i + m)) :: st) μ c k) : zJL b0 τ F pc L st μ c k := by
  intro ad H locs ls hw hL hz0 hst
  refine lv_aload_n (i := 0) hT.1 hT.2.1 hd rfl hz0 ?_
  refine lv_iload hT.1 hT.2.1 hd2 (hL.2.2 4 _ hL4).1 ?_
  refine lv_iconst (v := nI m) hT.1 hT.2.1 hd3 rfl ?_
  refine lv_iadd hT.1 hT.2.1 hd4 ?_
  have e : nI i + nI m = nI (i + m) := by
    show Int32.ofNat i + Int32.ofNat m = Int32.ofNat (i + m)
    rw [Int32.ofNat_add]
  rw [e]
  refine va_ti hT.1 hT.2.1 hX hw.2.1 (i := nI (i + m)) (zix_in (zix_nI hi (by omega))) (v := .int (xs (i + m))) (by rw [nI_clamp (by omega)]) hd5 ?_
  exact h ad H locs ls hw hL hz0 (zoks_cons (zok_int _ _) hst)
end ZL
section ZLC
variable {b0 : Nat} {l : Launch} {Z : zZ} {τ : zT} {M : zM} {kk mc ms : Nat} {F : State → Prop} {pc : Nat} {L : List (Option Value)} {st : List Value} {μ : zMem} {c k : Nat}
theorem zbackL (hT : zCx τ M kk mc ms) {Q' : Option Value → zMem → Prop} {mc' ms' : Nat} {ad : Nat → Nat} {H : Heap} {locs : List Loc} {ls : Array Slot} {st0 : List Value} {argsA : Array Value} (hw : zHS τ ad μ H locs) (hL : zLo ad (zN μ) L ls) (hz0 : ls[0]? = some (.val (.ref b0))) (hst : zoks (zN μ) st)
    (hr : va_Run τ.1 τ.2.1 τ.2.2.1 τ.2.2.2.1 τ.2.2.2.2.1 τ.2.2.2.2.2.1 τ.2.2.2.2.2.2.1 τ.2.2.2.2.2.2.2.1 τ.2.2.2.2.2.2.2.2.1 τ.2.2.2.2.2.2.2.2.2.1 H locs c k mc' ms' (zF0 τ pc ls st0) (st.map (ztv ad)) (zQc τ.2.2.2.2.2.2.2.2.2.2.1 ad (zN μ) Q' argsA) (zA τ.2.2.2.2.2.2.2.2.2.2.1))
    (h : ∀ (r : Option Value) (μ' : zMem), Q' r μ' → zJL b0 τ F (pc + 3) L (r.toList ++ st) μ' (c + mc') (k + ms')) : zW τ H locs c k F (zF0 τ pc ls st0) := by
  intro T hTh X
  obtain ⟨v, st₀, t, T', L', h0, X', hL', e1, e2, ⟨r, μ', ad', q1, q2, q3, q4, q5, q6, q7, q8⟩, hgo⟩ := hr T hTh X
  cases q1
  obtain ⟨_, _, _, _, _, _, _, _, _, _, hB, _⟩ := id hT
  have hst' : zoks (zN μ') (r.toList ++ st) := by
    intro w hwm
    rcases List.mem_append.mp hwm with g | g
    · exact q3 w (by cases r with
        | none => cases g
        | some x => rw [List.mem_singleton.mp g])
    · exact zok_mono (hst w g) q5
  have hS : va_S (zA τ.2.2.2.2.2.2.2.2.2.2.1) τ.2.2.2.2.1.heap T'.heap (locs ++ L') := by
    refine ⟨Nat.le_trans hw.2.1.1 (by rw [e1, ← h0]; exact q8), fun q g1 g2 => ?_, fun q hq => ?_⟩
    · have hlt : q < τ.2.2.2.2.2.2.2.2.2.2.1.1.heap.size := Nat.not_le.mp g2
      rw [e1, q7.2 q hlt, hB.2 q hlt]
    · rcases List.mem_append.mp hq with g | g
      · exact hw.2.1.2.2 q g
      · exact hL' q g
  have hw' : zHS τ ad' μ' T'.heap (locs ++ L') := ⟨by rw [e1]; exact q6, hS, fun a ha => by rw [q4 a (Nat.lt_of_lt_of_le ha hw.2.2.2)]; exact hw.2.2.1 a ha, Nat.le_trans hw.2.2.2 q5⟩
  have hJ := h r μ' q2 ad' T'.heap (locs ++ L') ls hw' (zLo_mono hL q4 q5) hz0 hst'
  obtain ⟨t2, a1, b1⟩ := hJ T' rfl X'
  refine ⟨t2, hgo t2 ?_, b1⟩
  have e3 : (r.map (ztv ad')).toList ++ st.map (ztv ad) = (r.toList ++ st).map (ztv ad') := by
    rw [List.map_append, ztv_congrs hst q4]
    cases r <;> rfl
  rw [e3]
  exact a1
theorem Q_callV (hY : zCy l Z τ M kk mc ms) {m : zM} {n k' mc' ms' idx b ci : Nat} {as stk : List Value} {Q' : Option Value → zMem → Prop} (hd : decode M.2.1 pc = .ok (.invokevirtual idx, 3)) (hm : zMf m n) (hins : Cond.instanceMethod m.1 ∈ ztb) (hsel : Cond.selects m.1.cls m.1 m.1 ∈ ztb) (hlink : Cond.methodLink M.1.cls idx m.1 ∈ ztb ∨ ∃ host, Cond.methodLinkNest M.1.cls idx m.1 host ∈ lw_tbl)
    (hci : ci < 9 ∧ zRX ci = m.1.cls) (hb : zK μ b = ci + 8) (ct : zCt l Z m k' mc' ms' (.ref b :: as) μ Q') (hn : as.length = n) (hkk : k' < kk) (hs : stk = as.reverse ++ .ref b :: st) (hL : L.length = M.2.2.1) (h8 : (st.map fun v => v.category).sum ≤ 8) (hc : c + mc' ≤ mc) (hk : k + ms' ≤ ms)
    (h : ∀ (r : Option Value) (μ' : zMem), Q' r μ' → zJL b0 τ F (pc + 3) L (r.toList ++ st) μ' (c + mc') (k + ms')) : zJL b0 τ F pc L stk μ c k := by
  intro ad H locs ls hw hLo hz0 hst
  subst hs
  obtain ⟨hT, el, eZ⟩ := hY
  subst el; subst eZ
  obtain ⟨_, _, _, _, _, _, _, _, _, hWm, hB, hfr, hlo, hcc, hss⟩ := id hT
  have hst1 : zoks (zN μ) st := fun v hv => hst v (List.mem_append_right _ (List.mem_cons_of_mem _ hv))
  have hob : zok (zN μ) (.ref b) := hst _ (List.mem_append_right _ List.mem_cons_self)
  have hoa : zoks (zN μ) (.ref b :: as) := zoks_cons hob fun v hv => hst v (List.mem_append_left _ (List.mem_reverse.mpr hv))
  have he := zws_at τ.2.2.2.2.2.2.2.2.2.2.1.2.2 ad μ (zok_lt hob)
  rw [zent_o hb] at he
  obtain ⟨cell, g1, g2, g3⟩ := va_recv hT.K hw.1.1 (zcl_at ci hci.1) he
  have hp : PreV τ.2.2.2.2.1 H m.1.cls (ad b) (zPc τ.2.2.2.2.2.2.2.2.2.2.1 ad μ (.ref b :: as)) (as.map (ztv ad)) := ⟨zPc_blind _ _ _ _, ⟨cell, g1, g2, by rw [← hci.2]; exact g3⟩, fun U hU hWU => ⟨rfl, hWm.trans hWU, by rw [hU]; exact hw.1, by rw [hU]; exact zHS.B hT hw⟩⟩
  have hst0 : (as.reverse ++ .ref b :: st).map (ztv ad) = (as.map (ztv ad)).reverse ++ .ref (ad b) :: st.map (ztv ad) := by rw [List.map_append, List.map_reverse]; rfl
  rcases hlink with hlink | ⟨host, hlink⟩
  · refine zbackL hT hw hLo hz0 hst1 (va_runV (Ts := ztb) (C := m.1.cls) ⟨hT.1, hT.2.1, hT.2.2.1, hT.own, hT.ws⟩ (ct ad hoa) ⟨callB_of n hT.ws (zpay hm) rfl rfl rfl (hT.ws _ hm.2.1) (hT.ws _ hlink) hm.2.2.1 (zroom hkk hfr hlo hm.2.2.2 mc' ms'), hT.ws _ hins, hT.ws _ hsel⟩ hp rfl (by rw [List.length_map]; exact hn) (hLo.1.trans hL) hst0 (lv_room (by rw [zcat8]; exact h8)) hd ⟨by omega, by omega⟩) h
  · refine zbackL hT hw hLo hz0 hst1 (va_runVN (Ts := ztb) (C := m.1.cls) ⟨hT.1, hT.2.1, hT.2.2.1, hT.own, hT.ws⟩ (ct ad hoa) ⟨va_cnB n hT.ws (zpay hm) rfl rfl rfl (hT.nestM hlink) (hT.ws _ hm.2.1) hm.2.2.1 (zroom hkk hfr hlo hm.2.2.2 mc' ms'), hT.ws _ hins, hT.ws _ hsel⟩ hp rfl (by rw [List.length_map]; exact hn) (hLo.1.trans hL) hst0 (lv_room (by rw [zcat8]; exact h8)) hd ⟨by omega, by omega⟩) h
theorem Q_callW (hY : zCy l Z τ M kk mc ms) {m : zM} {hh : zHh} {n k' mc' ms' idx : Nat} {as stk : List Value} {Q' : Option Value → zMem → Prop} (hd : decode M.2.1 pc = .ok (.invokestatic idx, 3)) (hm : zMw m hh n) (hsta : Cond.static m.1 ∈ ztb) (hlink : Cond.methodLink M.1.cls idx m.1 ∈ ztb)
    (ct : zCtW l Z m hh k' mc' ms' as μ Q') (hn : as.length = n) (hkk : k' < kk) (hs : stk = as.reverse ++ st) (hL : L.length = M.2.2.1) (h8 : (st.map fun v => v.category).sum ≤ 8) (hc : c + mc' ≤ mc) (hk : k + ms' ≤ ms)
    (h : ∀ (r : Option Value) (μ' : zMem), Q' r μ' → zJL b0 τ F (pc + 3) L (r.toList ++ st) μ' (c + mc') (k + ms')) : zJL b0 τ F pc L stk μ c k := by
  intro ad H locs ls hw hLo hz0 hst
  subst hs
  obtain ⟨hT, el, eZ⟩ := hY
  subst el; subst eZ
  obtain ⟨_, _, _, _, _, _, _, _, _, hWm, hB, hfr, hlo, hcc, hss⟩ := id hT
  have hst1 : zoks (zN μ) st := fun v hv => hst v (List.mem_append_right _ hv)
  have hoa : zoks (zN μ) as := fun v hv => hst v (List.mem_append_left _ (List.mem_reverse.mpr hv))
  have hp : PreS τ.2.2.2.2.1 H (zPc τ.2.2.2.2.2.2.2.2.2.2.1 ad μ as) (as.map (ztv ad)) := ⟨zPc_blind _ _ _ _, fun U hU hWU => ⟨rfl, hWm.trans hWU, by rw [hU]; exact hw.1, by rw [hU]; exact zHS.B hT hw⟩⟩
  have hst0 : (as.reverse ++ st).map (ztv ad) = (as.map (ztv ad)).reverse ++ st.map (ztv ad) := by rw [List.map_append, List.map_reverse]
  have hG : GoodIn ztb (va_wsS M.1.cls idx m.1 (zwsw m hh)) := by
    have g : ∀ w, w ∈ ztb → w ∈ ztb ∧ ((w.onTables && w.keeps) = true ∨ ∃ ty, w = .arrayClass ty) := fun w hw => ⟨hw, good_of_word (ztb_good _ hw).2⟩
    intro w hw
    unfold va_wsS zwsw at hw
    rcases List.mem_append.mp hw with q | q
    · simp only [List.mem_cons, List.not_mem_nil, or_false] at q
      rcases q with rfl | rfl | rfl
      · exact g _ hlink
      · exact g _ hsta
      · exact g _ hm.2.1
    · rcases List.mem_cons.mp q with rfl | q
      · exact g _ hm.1
      · exact g _ q
  exact zbackL hT hw hLo hz0 hst1 (vx_runSW (Ts := ztb) ⟨hT.1, hT.2.1, hT.2.2.1, hT.own, hT.ws⟩ (ct ad hoa) (vx_cwSW n hT.ws hG rfl rfl rfl hm.2.2.1 (zroom hkk hfr hlo hm.2.2.2 mc' ms')) hp rfl (by rw [List.length_map]; exact hn) (hLo.1.trans hL) hst0 (lv_room (by rw [zcat8]; exact h8)) hd ⟨by omega, by omega⟩) h
end ZLC

