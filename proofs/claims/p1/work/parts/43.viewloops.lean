/-! LOOPS of View: how many entries are live between two places; all entries set to not live. -/
/-- how many of the r places from a on are not 0 -/
def gv_n (f : Nat → Int32) (a : Nat) : Nat → Nat
  | 0 => 0
  | r + 1 => gv_n f a r + (if f (a + r) = 0 then 0 else 1)
/-- a place or a number up to 4096 -/
def gv_ok (x : Int32) : Prop := ∃ a : Nat, a ≤ 4096 ∧ x = nI a
def gv_c (f : Nat → Int32) (x y : Int32) : Int32 := nI (gv_n f x.toNatClampNeg (y.toNatClampNeg - x.toNatClampNeg))
theorem gv_c_nI {f : Nat → Int32} {a b : Nat} (ha : a ≤ 4096) (hb : b ≤ 4096) : gv_c f (nI a) (nI b) = nI (gv_n f a (b - a)) := by
  unfold gv_c
  rw [nI_clamp (by omega), nI_clamp (by omega)]
section GVL
variable {p : Program} {l : Launch} {e : Env} {R : Room} {s : State} {m : MethodId} {args : Array Value} {below : List Frame} {meth : Method} {c : Code} {H : Heap} {locs : List Loc} {cells slots : Nat} {Q : State → Prop} {D : va_G} {tys : List (ClassId × FieldType)} {ws : va_W} {A : Nat → Prop}
theorem lp_Vi_liveBetween {a b h0 q nm n3 : Nat} {cZ : ClassId} {f : Nat → Int32} {e0 e1 e3 : Value} {x1 x4 x5 : Int32} (hx : p.tables.exec = Jvm.exec) (hb : c.code = b_Vi_liveBetween) (hown : s.vm.findClass "CommitLedger$View" = some m.cls) (hts : ∀ w ∈ gx_all, w.before args s = true) (hK : va_K D classes tys s) (hP : va_P D classes ws H)
    (f1 : ws[nm]? = some (h0, .inr (4, [e0, e1, .ref q, e3, .int x4, .int x5]))) (f3 : ws[n3]? = some (q, .inl (cZ, 4096, .inl f))) (ht1 : tys[1]? = some (cZ, .boolean)) (ha : a ≤ 4096) (hbb : b ≤ 4096)
    (kk : ∀ ls : Array Slot, lv_has ls 5 [(3, .int (nI (gv_n f a (b - a))))] → W p l e R s m args below meth c H locs cells slots Q (F0 m 30 ls [])) :
    ∀ (r k : Nat), k + r = b - a → ∀ ls : Array Slot, lv_has ls 5 [(4, .int (nI (a + k))), (3, .int (nI (gv_n f a k))), (0, .ref h0), (1, .int x1), (2, .int (nI b))] → W p l e R s m args below meth c H locs cells slots Q (F0 m 5 ls []) := by
  intro r
  induction r with
  | zero =>
    intro k hk ls hl
    refine lv_iload hx hb d_Vi_liveBetween_5 (lv_at hl 0 rfl) ?_
    refine lv_iload_n hx hb d_Vi_liveBetween_7 rfl (lv_at hl 4 rfl) ?_
    refine lv_icmp_ge (tgt := 30) hx hb d_Vi_liveBetween_8 (by decide) (fun _ => ?_) (fun c9 => absurd (nI_le (by omega) (by omega)) c9)
    have e9 : k = b - a := by omega
    subst e9
    exact kk ls (lv_sub hl [1] rfl)
  | succ r ih =>
    intro k hk ls hl
    refine lv_iload hx hb d_Vi_liveBetween_5 (lv_at hl 0 rfl) ?_
    refine lv_iload_n hx hb d_Vi_liveBetween_7 rfl (lv_at hl 4 rfl) ?_
    refine lv_icmp_ge (tgt := 30) hx hb d_Vi_liveBetween_8 (by decide) (fun c9 => absurd c9 (nI_ge (by omega) (by omega))) (fun _ => ?_)
    refine lv_aload_n hx hb d_Vi_liveBetween_11 rfl (lv_at hl 2 rfl) ?_
    refine va_get (D := D) (ci := 4) (v := .ref q) (C := "CommitLedger$View") (T := F_Vi) (N := 6) hx hb hts i_Vi hown hK hP nm f1 rfl 2 (by decide) (hts _ kf_Vi_20) (fun _ h9 => h9) rfl d_Vi_liveBetween_12 ?_
    refine lv_iload hx hb d_Vi_liveBetween_15 (lv_at hl 0 rfl) ?_
    refine gx_zald (D := D) (j := a + k) (x := f (a + k)) hx hb hK hP n3 1 f3 ht1 (vp_in_nI (by omega) (by omega)) (nI_clamp (by omega)) rfl d_Vi_liveBetween_17 ?_
    refine lv_if_eq (tgt := 24) hx hb d_Vi_liveBetween_18 (by decide) (fun c0 => ?_) (fun c0 => ?_)
    · have e8 : gv_n f a (k + 1) = gv_n f a k := by simp [gv_n, c0]
      refine lv_iinc (v := nI (a + (k + 1))) (lv' := [(4, .int (nI (a + (k + 1)))), (3, .int (nI (gv_n f a k))), (0, .ref h0), (1, .int x1), (2, .int (nI b))]) hx hb d_Vi_liveBetween_24 hl (k := 0) rfl (show nI (a + k) + 1 = nI (a + k + 1) from nI_1 _) (by decide) rfl (fun ls hl => ?_)
      refine lv_goto (tgt := 5) hx hb d_Vi_liveBetween_27 (by decide) ?_
      exact ih (k + 1) (by omega) ls (by rw [e8]; exact hl)
    · have e8 : gv_n f a (k + 1) = gv_n f a k + 1 := by simp [gv_n, c0]
      refine lv_iinc (v := nI (gv_n f a k + 1)) (lv' := [(3, .int (nI (gv_n f a k + 1))), (4, .int (nI (a + k))), (0, .ref h0), (1, .int x1), (2, .int (nI b))]) hx hb d_Vi_liveBetween_21 hl (k := 1) rfl (show nI (gv_n f a k) + 1 = _ from nI_1 _) (by decide) rfl (fun ls hl => ?_)
      refine lv_iinc (v := nI (a + (k + 1))) (lv' := [(4, .int (nI (a + (k + 1)))), (3, .int (nI (gv_n f a k + 1))), (0, .ref h0), (1, .int x1), (2, .int (nI b))]) hx hb d_Vi_liveBetween_24 hl (k := 1) rfl (show nI (a + k) + 1 = nI (a + k + 1) from nI_1 _) (by decide) rfl (fun ls hl => ?_)
      refine lv_goto (tgt := 5) hx hb d_Vi_liveBetween_27 (by decide) ?_
      exact ih (k + 1) (by omega) ls (by rw [e8]; exact hl)
theorem lp_Vi_becomeEmpty {h0 q nm n3 : Nat} {cZ : ClassId} {e0 e1 e3 : Value} {x4 x5 : Int32} {ws0 : va_W} {ks : List Nat} (hx : p.tables.exec = Jvm.exec) (hb : c.code = b_Vi_becomeEmpty) (hown : s.vm.findClass "CommitLedger$View" = some m.cls) (hts : ∀ w ∈ gx_all, w.before args s = true) (hK : va_K D classes tys s) (ht1 : tys[1]? = some (cZ, .boolean)) (hne : nm ≠ n3) (hks : n3 ∈ ks)
    (kk : ∀ (f : Nat → Int32) (ws : va_W) (H : Heap) (locs : List Loc) (ls : Array Slot), (∀ j : Nat, j < 4096 → f j = 0) → va_P D classes ws H → va_D A ws → va_S A s.heap H locs → gx_g ws0 ws 0 ks → ws[nm]? = some (h0, .inr (4, [e0, e1, .ref q, e3, .int x4, .int x5])) → ws[n3]? = some (q, .inl (cZ, 4096, .inl f)) → lv_has ls 2 [(0, .ref h0)] → W p l e R s m args below meth c H locs cells slots Q (F0 m 32 ls [])) :
    ∀ (r k : Nat), k + r = 4096 → ∀ (f : Nat → Int32) (ws : va_W) (H : Heap) (locs : List Loc) (ls : Array Slot), (∀ j : Nat, j < k → f j = 0) → va_P D classes ws H → va_D A ws → va_S A s.heap H locs → gx_g ws0 ws 0 ks → ws[nm]? = some (h0, .inr (4, [e0, e1, .ref q, e3, .int x4, .int x5])) → ws[n3]? = some (q, .inl (cZ, 4096, .inl f)) → lv_has ls 2 [(1, .int (nI k)), (0, .ref h0)] → W p l e R s m args below meth c H locs cells slots Q (F0 m 12 ls []) := by
  intro r
  induction r with
  | zero =>
    intro k hk f ws H locs ls hf hP hD hS hU f1 f3 hl
    have e9 : k = 4096 := by omega
    subst e9
    refine lv_iload_n hx hb d_Vi_becomeEmpty_12 rfl (lv_at hl 0 rfl) ?_
    refine lv_sipush (v := 4096) hx hb d_Vi_becomeEmpty_13 (by decide) ?_
    refine lv_icmp_ge (tgt := 32) hx hb d_Vi_becomeEmpty_16 (by decide) (fun _ => ?_) (fun c9 => absurd (by decide) c9)
    exact kk f ws H locs ls hf hP hD hS hU f1 f3 (lv_sub hl [1] rfl)
  | succ r ih =>
    intro k hk f ws H locs ls hf hP hD hS hU f1 f3 hl
    refine lv_iload_n hx hb d_Vi_becomeEmpty_12 rfl (lv_at hl 0 rfl) ?_
    refine lv_sipush (v := 4096) hx hb d_Vi_becomeEmpty_13 (by decide) ?_
    refine lv_icmp_ge (tgt := 32) hx hb d_Vi_becomeEmpty_16 (by decide) (fun c9 => absurd c9 (show ¬ nI 4096 ≤ nI k from nI_ge (by omega) (by decide))) (fun _ => ?_)
    refine lv_aload_n hx hb d_Vi_becomeEmpty_19 rfl (lv_at hl 1 rfl) ?_
    refine va_get (D := D) (ci := 4) (v := .ref q) (C := "CommitLedger$View") (T := F_Vi) (N := 6) hx hb hts i_Vi hown hK hP nm f1 rfl 2 (by decide) (hts _ kf_Vi_20) (fun _ h9 => h9) rfl d_Vi_becomeEmpty_20 ?_
    refine lv_iload_n hx hb d_Vi_becomeEmpty_23 rfl (lv_at hl 0 rfl) ?_
    refine lv_iconst (v := 0) hx hb d_Vi_becomeEmpty_24 (by decide) ?_
    have hcl : (nI k).toNatClampNeg = k := nI_clamp (by omega)
    refine va_zast (D := D) hx hb hK hP hD hS n3 1 f3 ht1 (vp_in_nI (by omega) (by omega)) d_Vi_becomeEmpty_25 (fun H1 locs1 hP1 hD1 hS1 => ?_)
    rw [hcl] at hP1 hD1
    refine lv_iinc (v := nI (k + 1)) (lv' := [(1, .int (nI (k + 1))), (0, .ref h0)]) hx hb d_Vi_becomeEmpty_26 hl (k := 0) rfl (show nI k + 1 = nI (k + 1) from nI_1 _) (by decide) rfl (fun ls hl => ?_)
    refine lv_goto (tgt := 12) hx hb d_Vi_becomeEmpty_29 (by decide) ?_
    refine ih (k + 1) (by omega) _ _ H1 locs1 ls (fun j hj => ?_) hP1 hD1 hS1 (hU.put (Or.inl hks)) (gs_ne (fun h => hne h.symm) f1) (gs_self f3) hl
    by_cases e7 : j = k
    · subst e7
      exact pk_us
    · rw [pk_un e7]
      exact hf j (by omega)
end GVL
