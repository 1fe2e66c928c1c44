/-! THE THIRD LAYER, the reference: the writer: programs of numbers and the proof that the machine does what they say; printed by an own text program -/
def f_Mo_flushing_222 (X : gX) : Option (gR × gX) := gB (X.w 46 23 0) (fun X4 => some (gR.i 1, X4))
def f_Mo_flushing_118 (X : gX) (i4 : Int32) (i5 : Int32) : Option ((gX × Int32) ⊕ (gR × gX)) := (if (X.I 46 23) ≤ i5 then gB (X.w 54 7 ((X.I 54 7) + 1)) (fun X13 => (if gIn (X13.I 54 7) 4098 then gB (X13.w 57 (gn (X13.I 54 7)) (i4 + (X13.I 46 23))) (fun X14 => gLf (f_Mo_flushing_222 X14)) else none)) else (if gIn i5 4096 then (if gIn (i4 + i5) 4096 then gB (X.w 59 (gn (i4 + i5)) (X.I 78 (gn i5))) (fun X15 => (if gIn i5 4096 then (if gIn (i4 + i5) 4096 then gB (X15.w 60 (gn (i4 + i5)) (vp_nar .boolean (X15.I 79 (gn i5)))) (fun X16 => (if gIn (i4 + i5) 4096 then gB (X16.w 61 (gn (i4 + i5)) (vp_nar .boolean 1)) (fun X17 => some (Sum.inl (X17, i5 + 1))) else none)) else none) else none)) else none) else none))
def f_Mo_flushing_104 (X : gX) (i3 : Int32) : Option (gR × gX) := (if gIn i3 4098 then gI (fun s : gX × Int32 => f_Mo_flushing_118 s.1 (X.I 57 (gn i3)) s.2) gK (X, 0) else none)
def f_Mo_flushing_30 (X : gX) (i2 : Int32) (i1000 : Int32) : Option ((Int32 × Int32) ⊕ (gR × gX)) := some (Sum.inl (i1000, i2 + 1))
def f_Mo_flushing_25 (X : gX) (i2 : Int32) : Option ((Int32 × Int32) ⊕ (gR × gX)) := f_Mo_flushing_30 X i2 1
def f_Mo_flushing_4 (X : gX) (i1 : Int32) (i2 : Int32) : Option ((Int32 × Int32) ⊕ (gR × gX)) := (if (X.I 46 23) ≤ i2 then (if i1 = (0 : Int32) then gLf (f_Mo_flushing_222 X) else gCi (f_Mo_write X) (fun x5 X5 => (if (0 : Int32) ≤ x5 then (if gIn (X5.I 54 7) 4097 then gB (X5.w 55 (gn (X5.I 54 7)) x5) (fun X7 => (if gIn (X5.I 54 7) 4097 then gB (X7.w 56 (gn (X5.I 54 7)) (-1)) (fun X8 => (if gIn (X5.I 54 7) 4097 then gB (X8.w 58 (gn (X5.I 54 7)) 0) (fun X9 => (if (X5.I 54 7) = (0 : Int32) then (if gIn 0 4098 then gB (X9.w 57 (gn 0) 0) (fun X24 => gLf (f_Mo_flushing_104 X24 (X5.I 54 7))) else none) else gLf (f_Mo_flushing_104 X9 (X5.I 54 7)))) else none)) else none)) else none) else gLf (some (gR.i 0, X5))))) else (if i1 = (0 : Int32) then (if gIn i2 4096 then (if (X.I 79 (gn i2)) = (0 : Int32) then f_Mo_flushing_30 X i2 0 else f_Mo_flushing_25 X i2) else none) else f_Mo_flushing_25 X i2))
def f_Mo_flushing (X0 : gX) : Option (gR × gX) := gI (fun s : Int32 × Int32 => f_Mo_flushing_4 X0 s.1 s.2) gK (0, 0)
set_option maxHeartbeats 4000000 in
set_option maxRecDepth 100000 in
theorem K_Mo_flushing (l : Launch) (htr : l.stackTraces = false) (D : va_G) (tys : List (ClassId × FieldType)) (z sz : Nat) (ws : va_W) (h : gm_M) (hM : gm_S h ws) (t : Nat → ClassId) (ht : gTy t tys) (b : Nat → Nat) (X0 : gX) (hw : gw D t b X0 h) (o : gR × gX) (hf : f_Mo_flushing X0 = some o) : gx_Met l y_Mo_flushing [Cond.code y_Mo_flushing b_Mo_flushing 6 (some .boolean)] { frames := 5, cells := 0, slots := 0, locals := 98 } (gx_P z sz D classes tys ws [Value.ref (b 46)]) (gx_Q D classes tys (va_A ws sz) (gPo D t b X0 o)) (0) (0) (va_A ws sz) := by
  refine gx_ofW (cc := b_Mo_flushing) (maxL := 6) (ret := (some .boolean)) (by decide) rfl ?_
  intro p e s m args below meth c s₁ B hml hv
  obtain ⟨rfl, hsz, hz, hP, hK, hD0, hY⟩ := hv
  have hx := B.exec
  have hb := B.bytes
  have hr := B.returns
  have hts := hY.hts (#[Value.ref (b 46)] : Array Value)
  have hown : s.vm.findClass "CommitLedgerModel" = some m.cls := findClass_of_methodNamed B.named
  have hlocks := B.notSynchronized
  subst hsz
  have hAz := gx_az hD0 hz
  have hD := hD0.self (sz := s.heap.size)
  have hA : ∀ q : Nat, s.heap.size ≤ q → va_A ws s.heap.size q := fun q h => Or.inr h
  generalize va_A ws s.heap.size = A at hD hA hAz ⊢
  have Y : gy D t b A s.heap X0 X0 s.heap [] := ⟨h, ⟨ws, hM, hP, hD, va_S.rf⟩, hw, gEq.rf⟩
  clear hP hD hM hD0 hw
  obtain ⟨ht0, ht1, ht2, ht3, ht4, ht5, ht6, ht7, ht8⟩ := id ht
  have hl := lv_entry ([Value.ref (b 46)]) (n := 6) (Nat.le_of_ble_eq_true rfl)
  rw [lg_entry_eq]
  generalize (lg_sl ([Value.ref (b 46)]) ++ List.replicate (6 - (lg_sl ([Value.ref (b 46)])).length) Slot.unset).toArray = ls at hl ⊢
  have hl : lv_has ls 6 [(0, Value.ref (b 46))] := hl
  refine gy_cut (pcJ := 222) Y (fun s : gX => f_Mo_flushing_222 s) o (fun s => s) (fun s ls => lv_has ls 6 [(0, Value.ref (b 46))]) (fun s => []) ?_ (fun J222 => ?_)
  · rintro X40 H locs ls hf hl Y
    have hl : lv_has ls 6 [(0, Value.ref (b 46))] := hl
    have Y : gy D t b A s.heap X0 X40 H locs := Y
    have hf : f_Mo_flushing_222 X40 = some o := hf
    unfold f_Mo_flushing_222 at hf
    refine lv_aload_n hx hb d_Mo_flushing_222 rfl (lv_at hl 0 rfl) ?_
    refine lv_iconst (v := 0) hx hb d_Mo_flushing_223 (by decide) ?_
    refine gy_put hf (ci := 8) (ty := .int) (C := "CommitLedgerModel") (T := F_Mo) (N := 35) hx hb hts i_Mo t_Mo_ok n_Mo hown hK Y gF_46 rfl (by decide) kf_Mo_172 rfl (by decide +kernel) rfl rfl (Nat.le_of_ble_eq_true rfl) gF_46 d_Mo_flushing_224 (fun X41 H locs hf Y => ?_)
    refine lv_iconst (v := 1) hx hb d_Mo_flushing_227 (by decide) ?_
    exact gy_zret hf hx hb hr hlocks hK Y (Nat.zero_le _) (Nat.zero_le _) rfl d_Mo_flushing_228
  refine gy_cut (pcJ := 104) Y (fun s : gX × Int32 => f_Mo_flushing_104 s.1 s.2) o (fun s => s.1) (fun s ls => lv_has ls 6 [(3, Value.int s.2), (0, Value.ref (b 46))]) (fun s => []) ?_ (fun J104 => ?_)
  · rintro ⟨X42, i3_42⟩ H locs ls hf hl Y
    have hl : lv_has ls 6 [(3, Value.int i3_42), (0, Value.ref (b 46))] := hl
    have Y : gy D t b A s.heap X0 X42 H locs := Y
    have hf : f_Mo_flushing_104 X42 i3_42 = some o := hf
    unfold f_Mo_flushing_104 at hf
    refine lv_aload_n hx hb d_Mo_flushing_104 rfl (lv_at hl 1 rfl) ?_
    refine gy_get (ci := 8) (v := Value.ref (b 54)) (C := "CommitLedgerModel") (T := F_Mo) (N := 35) hx hb hts i_Mo hown hK Y gF_46 rfl 15 (by decide) kf_Mo_40 rfl d_Mo_flushing_105 ?_
    refine gy_get (ci := 9) (v := Value.ref (b 57)) (C := "CommitLedgerModel$Version") (T := F_Ve) (N := 11) hx hb hts i_Ve hown hK Y gF_54 rfl 2 (by decide) kf_Mo_182 rfl d_Mo_flushing_108 ?_
    refine lv_iload_n hx hb d_Mo_flushing_111 rfl (lv_at hl 0 rfl) ?_
    refine gy_iald hf hx hb hK Y 0 (fun _ => gF_57) ht0 d_Mo_flushing_112 (fun _ hf => ?_)
    refine lv_istore (lv' := [(4, Value.int (X42.I 57 (gn i3_42))), (3, Value.int i3_42), (0, Value.ref (b 46))]) hx hb d_Mo_flushing_113 hl (by decide) rfl (fun ls hl => ?_)
    refine lv_iconst (v := 0) hx hb d_Mo_flushing_115 (by decide) ?_
    refine lv_istore (lv' := [(5, Value.int 0), (4, Value.int (X42.I 57 (gn i3_42))), (3, Value.int i3_42), (0, Value.ref (b 46))]) hx hb d_Mo_flushing_116 hl (by decide) rfl (fun ls hl => ?_)
    refine gy_iter (fun s : gX × Int32 => s.1) (fun (s : gX × Int32) ls => lv_has ls 6 [(5, Value.int s.2), (0, Value.ref (b 46)), (4, Value.int (X42.I 57 (gn i3_42)))]) ?_ gK (X42, 0) _ _ _ hf (lv_sub hl [0, 3, 1] rfl) Y
    rintro ⟨X43, i5_43⟩ u43 H locs ls hf hl Y hk43 ho43
    have hl : lv_has ls 6 [(5, Value.int i5_43), (0, Value.ref (b 46)), (4, Value.int (X42.I 57 (gn i3_42)))] := hl
    have Y : gy D t b A s.heap X0 X43 H locs := Y
    have hf : f_Mo_flushing_118 X43 (X42.I 57 (gn i3_42)) i5_43 = some u43 := hf
    unfold f_Mo_flushing_118 at hf
    refine lv_iload hx hb d_Mo_flushing_118 (lv_at hl 0 rfl) ?_
    refine lv_aload_n hx hb d_Mo_flushing_120 rfl (lv_at hl 1 rfl) ?_
    refine gy_get (ci := 8) (v := Value.int (X43.I 46 23)) (C := "CommitLedgerModel") (T := F_Mo) (N := 35) hx hb hts i_Mo hown hK Y gF_46 rfl 23 (by decide) kf_Mo_172 rfl d_Mo_flushing_121 ?_
    refine lv_icmp_ge (tgt := 187) hx hb d_Mo_flushing_124 (by decide) (fun c124_44 => ?_) (fun c124_44 => ?_)
    · replace hf := gp_t c124_44 hf
      refine lv_aload_n hx hb d_Mo_flushing_187 rfl (lv_at hl 1 rfl) ?_
      refine gy_get (ci := 8) (v := Value.ref (b 54)) (C := "CommitLedgerModel") (T := F_Mo) (N := 35) hx hb hts i_Mo hown hK Y gF_46 rfl 15 (by decide) kf_Mo_40 rfl d_Mo_flushing_188 ?_
      refine lv_dup hx hb d_Mo_flushing_191 rfl ?_
      refine gy_get (ci := 9) (v := Value.int (X43.I 54 7)) (C := "CommitLedgerModel$Version") (T := F_Ve) (N := 11) hx hb hts i_Ve hown hK Y gF_54 rfl 7 (by decide) kf_Mo_122 rfl d_Mo_flushing_192 ?_
      refine lv_iconst (v := 1) hx hb d_Mo_flushing_195 (by decide) ?_
      refine lv_iadd hx hb d_Mo_flushing_196 ?_
      refine gy_put hf (ci := 9) (ty := .int) (C := "CommitLedgerModel$Version") (T := F_Ve) (N := 11) hx hb hts i_Ve t_Ve_ok n_Ve hown hK Y gF_54 rfl (by decide) kf_Mo_122 rfl (by decide +kernel) rfl rfl (Nat.le_of_ble_eq_true rfl) gF_54 d_Mo_flushing_197 (fun X45 H locs hf Y => ?_)
      refine lv_aload_n hx hb d_Mo_flushing_200 rfl (lv_at hl 1 rfl) ?_
      refine gy_get (ci := 8) (v := Value.ref (b 54)) (C := "CommitLedgerModel") (T := F_Mo) (N := 35) hx hb hts i_Mo hown hK Y gF_46 rfl 15 (by decide) kf_Mo_40 rfl d_Mo_flushing_201 ?_
      refine gy_get (ci := 9) (v := Value.ref (b 57)) (C := "CommitLedgerModel$Version") (T := F_Ve) (N := 11) hx hb hts i_Ve hown hK Y gF_54 rfl 2 (by decide) kf_Mo_182 rfl d_Mo_flushing_204 ?_
      refine lv_aload_n hx hb d_Mo_flushing_207 rfl (lv_at hl 1 rfl) ?_
      refine gy_get (ci := 8) (v := Value.ref (b 54)) (C := "CommitLedgerModel") (T := F_Mo) (N := 35) hx hb hts i_Mo hown hK Y gF_46 rfl 15 (by decide) kf_Mo_40 rfl d_Mo_flushing_208 ?_
      refine gy_get (ci := 9) (v := Value.int (X45.I 54 7)) (C := "CommitLedgerModel$Version") (T := F_Ve) (N := 11) hx hb hts i_Ve hown hK Y gF_54 rfl 7 (by decide) kf_Mo_122 rfl d_Mo_flushing_211 ?_
      refine lv_iload hx hb d_Mo_flushing_214 (lv_at hl 2 rfl) ?_
      refine lv_aload_n hx hb d_Mo_flushing_216 rfl (lv_at hl 1 rfl) ?_
      refine gy_get (ci := 8) (v := Value.int (X45.I 46 23)) (C := "CommitLedgerModel") (T := F_Mo) (N := 35) hx hb hts i_Mo hown hK Y gF_46 rfl 23 (by decide) kf_Mo_172 rfl d_Mo_flushing_217 ?_
      refine lv_iadd hx hb d_Mo_flushing_220 ?_
      refine gy_iast hf hx hb hK Y 0 (fun _ => gF_57) ht0 d_Mo_flushing_221 (fun X46 H locs hf Y => ?_)
      replace hf := gU hf ho43
      exact J222 X46 _ _ _ hf (lv_sub hl [1] rfl) Y
    · replace hf := gp_f c124_44 hf
      refine lv_aload_n hx hb d_Mo_flushing_127 rfl (lv_at hl 1 rfl) ?_
      refine gy_get (ci := 8) (v := Value.ref (b 54)) (C := "CommitLedgerModel") (T := F_Mo) (N := 35) hx hb hts i_Mo hown hK Y gF_46 rfl 15 (by decide) kf_Mo_40 rfl d_Mo_flushing_128 ?_
      refine gy_get (ci := 9) (v := Value.ref (b 59)) (C := "CommitLedgerModel$Version") (T := F_Ve) (N := 11) hx hb hts i_Ve hown hK Y gF_54 rfl 4 (by decide) kf_Mo_185 rfl d_Mo_flushing_131 ?_
      refine lv_iload hx hb d_Mo_flushing_134 (lv_at hl 2 rfl) ?_
      refine lv_iload hx hb d_Mo_flushing_136 (lv_at hl 0 rfl) ?_
      refine lv_iadd hx hb d_Mo_flushing_138 ?_
      refine lv_aload_n hx hb d_Mo_flushing_139 rfl (lv_at hl 1 rfl) ?_
      refine gy_get (ci := 8) (v := Value.ref (b 78)) (C := "CommitLedgerModel") (T := F_Mo) (N := 35) hx hb hts i_Mo hown hK Y gF_46 rfl 21 (by decide) kf_Mo_50 rfl d_Mo_flushing_140 ?_
      refine lv_iload hx hb d_Mo_flushing_143 (lv_at hl 0 rfl) ?_
      refine gy_iald hf hx hb hK Y 0 (fun _ => gF_78) ht0 d_Mo_flushing_145 (fun _ hf => ?_)
      refine gy_iast hf hx hb hK Y 0 (fun _ => gF_59) ht0 d_Mo_flushing_146 (fun X47 H locs hf Y => ?_)
      refine lv_aload_n hx hb d_Mo_flushing_147 rfl (lv_at hl 1 rfl) ?_
      refine gy_get (ci := 8) (v := Value.ref (b 54)) (C := "CommitLedgerModel") (T := F_Mo) (N := 35) hx hb hts i_Mo hown hK Y gF_46 rfl 15 (by decide) kf_Mo_40 rfl d_Mo_flushing_148 ?_
      refine gy_get (ci := 9) (v := Value.ref (b 60)) (C := "CommitLedgerModel$Version") (T := F_Ve) (N := 11) hx hb hts i_Ve hown hK Y gF_54 rfl 5 (by decide) kf_Mo_188 rfl d_Mo_flushing_151 ?_
      refine lv_iload hx hb d_Mo_flushing_154 (lv_at hl 2 rfl) ?_
      refine lv_iload hx hb d_Mo_flushing_156 (lv_at hl 0 rfl) ?_
      refine lv_iadd hx hb d_Mo_flushing_158 ?_
      refine lv_aload_n hx hb d_Mo_flushing_159 rfl (lv_at hl 1 rfl) ?_
      refine gy_get (ci := 8) (v := Value.ref (b 79)) (C := "CommitLedgerModel") (T := F_Mo) (N := 35) hx hb hts i_Mo hown hK Y gF_46 rfl 22 (by decide) kf_Mo_53 rfl d_Mo_flushing_160 ?_
      refine lv_iload hx hb d_Mo_flushing_163 (lv_at hl 0 rfl) ?_
      refine gy_zald hf hx hb hK Y 1 (fun _ => gF_79) ht1 d_Mo_flushing_165 (fun _ hf => ?_)
      refine gy_zast hf hx hb hK Y 1 (fun _ => gF_60) ht1 d_Mo_flushing_166 (fun X48 H locs hf Y => ?_)
      refine lv_aload_n hx hb d_Mo_flushing_167 rfl (lv_at hl 1 rfl) ?_
      refine gy_get (ci := 8) (v := Value.ref (b 54)) (C := "CommitLedgerModel") (T := F_Mo) (N := 35) hx hb hts i_Mo hown hK Y gF_46 rfl 15 (by decide) kf_Mo_40 rfl d_Mo_flushing_168 ?_
      refine gy_get (ci := 9) (v := Value.ref (b 61)) (C := "CommitLedgerModel$Version") (T := F_Ve) (N := 11) hx hb hts i_Ve hown hK Y gF_54 rfl 6 (by decide) kf_Mo_191 rfl d_Mo_flushing_171 ?_
      refine lv_iload hx hb d_Mo_flushing_174 (lv_at hl 2 rfl) ?_
      refine lv_iload hx hb d_Mo_flushing_176 (lv_at hl 0 rfl) ?_
      refine lv_iadd hx hb d_Mo_flushing_178 ?_
      refine lv_iconst (v := 1) hx hb d_Mo_flushing_179 (by decide) ?_
      refine gy_zast hf hx hb hK Y 1 (fun _ => gF_61) ht1 d_Mo_flushing_180 (fun X49 H locs hf Y => ?_)
      refine lv_iinc (v := i5_43 + 1) (lv' := [(5, Value.int (i5_43 + 1)), (0, Value.ref (b 46)), (4, Value.int (X42.I 57 (gn i3_42)))]) hx hb d_Mo_flushing_181 hl (k := 0) rfl (rfl) (by decide) rfl (fun ls hl => ?_)
      refine lv_goto (tgt := 118) hx hb d_Mo_flushing_184 (by decide) ?_
      exact hk43 _ _ _ _ hf (lv_sub hl [0, 1, 2] rfl) Y
  unfold f_Mo_flushing at hf
  refine lv_iconst (v := 0) hx hb d_Mo_flushing_0 (by decide) ?_
  refine lv_istore_n (lv' := [(1, Value.int 0), (0, Value.ref (b 46))]) hx hb d_Mo_flushing_1 rfl hl (by decide) rfl (fun ls hl => ?_)
  refine lv_iconst (v := 0) hx hb d_Mo_flushing_2 (by decide) ?_
  refine lv_istore_n (lv' := [(2, Value.int 0), (1, Value.int 0), (0, Value.ref (b 46))]) hx hb d_Mo_flushing_3 rfl hl (by decide) rfl (fun ls hl => ?_)
  refine gy_iter (fun s : Int32 × Int32 => X0) (fun (s : Int32 × Int32) ls => lv_has ls 6 [(1, Value.int s.1), (2, Value.int s.2), (0, Value.ref (b 46))]) ?_ gK (0, 0) _ _ _ hf (lv_sub hl [1, 0, 2] rfl) Y
  rintro ⟨i1_50, i2_50⟩ u50 H locs ls hf hl Y hk50 ho50
  have hl : lv_has ls 6 [(1, Value.int i1_50), (2, Value.int i2_50), (0, Value.ref (b 46))] := hl
  have Y : gy D t b A s.heap X0 X0 H locs := Y
  have hf : f_Mo_flushing_4 X0 i1_50 i2_50 = some u50 := hf
  refine gy_cut (pcJ := 30) Y (fun s : Int32 × Int32 => f_Mo_flushing_30 X0 s.1 s.2) u50 (fun s => X0) (fun s ls => lv_has ls 6 [(2, Value.int s.1), (0, Value.ref (b 46))]) (fun s => [Value.int s.2]) ?_ (fun J30 => ?_)
  · rintro ⟨i2_51, i1000_51⟩ H locs ls hf hl Y
    have hl : lv_has ls 6 [(2, Value.int i2_51), (0, Value.ref (b 46))] := hl
    have Y : gy D t b A s.heap X0 X0 H locs := Y
    have hf : f_Mo_flushing_30 X0 i2_51 i1000_51 = some u50 := hf
    unfold f_Mo_flushing_30 at hf
    refine W.eq (g2 := F0 m 30 ls [Value.int i1000_51]) rfl ?_
    refine lv_istore_n (lv' := [(1, Value.int i1000_51), (2, Value.int i2_51), (0, Value.ref (b 46))]) hx hb d_Mo_flushing_30 rfl hl (by decide) rfl (fun ls hl => ?_)
    refine lv_iinc (v := i2_51 + 1) (lv' := [(2, Value.int (i2_51 + 1)), (1, Value.int i1000_51), (0, Value.ref (b 46))]) hx hb d_Mo_flushing_31 hl (k := 1) rfl (rfl) (by decide) rfl (fun ls hl => ?_)
    refine lv_goto (tgt := 4) hx hb d_Mo_flushing_34 (by decide) ?_
    exact hk50 _ _ _ _ hf (lv_sub hl [1, 0, 2] rfl) Y
  refine gy_cut (pcJ := 25) Y (fun s : Int32 => f_Mo_flushing_25 X0 s) u50 (fun s => X0) (fun s ls => lv_has ls 6 [(2, Value.int s), (0, Value.ref (b 46))]) (fun s => []) ?_ (fun J25 => ?_)
  · rintro i2_52 H locs ls hf hl Y
    have hl : lv_has ls 6 [(2, Value.int i2_52), (0, Value.ref (b 46))] := hl
    have Y : gy D t b A s.heap X0 X0 H locs := Y
    have hf : f_Mo_flushing_25 X0 i2_52 = some u50 := hf
    unfold f_Mo_flushing_25 at hf
    refine lv_iconst (v := 1) hx hb d_Mo_flushing_25 (by decide) ?_
    refine lv_goto (tgt := 30) hx hb d_Mo_flushing_26 (by decide) ?_
    exact J30 (i2_52, 1) _ _ _ hf (lv_sub hl [0, 1] rfl) Y
  unfold f_Mo_flushing_4 at hf
  refine lv_iload_n hx hb d_Mo_flushing_4 rfl (lv_at hl 1 rfl) ?_
  refine lv_aload_n hx hb d_Mo_flushing_5 rfl (lv_at hl 2 rfl) ?_
  refine gy_get (ci := 8) (v := Value.int (X0.I 46 23)) (C := "CommitLedgerModel") (T := F_Mo) (N := 35) hx hb hts i_Mo hown hK Y gF_46 rfl 23 (by decide) kf_Mo_172 rfl d_Mo_flushing_6 ?_
  refine lv_icmp_ge (tgt := 37) hx hb d_Mo_flushing_9 (by decide) (fun c9_53 => ?_) (fun c9_53 => ?_)
  · replace hf := gp_t c9_53 hf
    refine lv_iload_n hx hb d_Mo_flushing_37 rfl (lv_at hl 0 rfl) ?_
    refine lv_if_eq (tgt := 222) hx hb d_Mo_flushing_38 (by decide) (fun c38_54 => ?_) (fun c38_54 => ?_)
    · replace hf := gp_t c38_54 hf
      replace hf := gU hf ho50
      exact J222 X0 _ _ _ hf (lv_sub hl [2] rfl) Y
    · replace hf := gp_f c38_54 hf
      refine lv_aload_n hx hb d_Mo_flushing_41 rfl (lv_at hl 2 rfl) ?_
      obtain ⟨x55, X55, hF55, hf⟩ := gCi_el hf
      refine gy_callI (rm := { frames := 4, cells := 0, slots := 0, locals := 78 }) (ig := .invokevirtual 178) (av := [Value.ref (b 46)]) Y (fun ws h hS hw => K_Mo_write l htr D tys z _ ws h hS t ht b X0 hw (gR.i x55, X55) hF55) (gx_invV (As := []) (rest := []) hx hb hown hts km_Mo_178 kI_Mo_write kV_Mo_write kc_Mo_write (by decide) (show (parseMethodDescriptor y_Mo_write.desc).map (fun d => d.parameters.length) = some 0 by decide +kernel) (gy_recv (ci := 8) hK Y rfl gF_46) rfl rfl d_Mo_flushing_42) (gx_cw (z := 0) hts kc_Mo_write kN_Mo rfl rfl ⟨Nat.le_of_ble_eq_true rfl, Nat.le_of_ble_eq_true rfl⟩) hb hml hz hK hY hAz hA hl.1 (lv_room (Nat.le_of_ble_eq_true rfl)) d_Mo_flushing_42 ⟨Nat.zero_le _, Nat.zero_le _⟩ (fun H locs Y => ?_)
      refine lv_istore_n (lv' := [(2, Value.int x55), (1, Value.int i1_50), (0, Value.ref (b 46))]) hx hb d_Mo_flushing_45 rfl hl (by decide) rfl (fun ls hl => ?_)
      refine lv_iload_n hx hb d_Mo_flushing_46 rfl (lv_at hl 0 rfl) ?_
      refine lv_if_ge (tgt := 52) hx hb d_Mo_flushing_47 (by decide) (fun c47_56 => ?_) (fun c47_56 => ?_)
      · replace hf := gp_t c47_56 hf
        refine lv_aload_n hx hb d_Mo_flushing_52 rfl (lv_at hl 2 rfl) ?_
        refine gy_get (ci := 8) (v := Value.ref (b 54)) (C := "CommitLedgerModel") (T := F_Mo) (N := 35) hx hb hts i_Mo hown hK Y gF_46 rfl 15 (by decide) kf_Mo_40 rfl d_Mo_flushing_53 ?_
        refine gy_get (ci := 9) (v := Value.int (X55.I 54 7)) (C := "CommitLedgerModel$Version") (T := F_Ve) (N := 11) hx hb hts i_Ve hown hK Y gF_54 rfl 7 (by decide) kf_Mo_122 rfl d_Mo_flushing_56 ?_
        refine lv_istore_n (lv' := [(3, Value.int (X55.I 54 7)), (2, Value.int x55), (1, Value.int i1_50), (0, Value.ref (b 46))]) hx hb d_Mo_flushing_59 rfl hl (by decide) rfl (fun ls hl => ?_)
        refine lv_aload_n hx hb d_Mo_flushing_60 rfl (lv_at hl 3 rfl) ?_
        refine gy_get (ci := 8) (v := Value.ref (b 54)) (C := "CommitLedgerModel") (T := F_Mo) (N := 35) hx hb hts i_Mo hown hK Y gF_46 rfl 15 (by decide) kf_Mo_40 rfl d_Mo_flushing_61 ?_
        refine gy_get (ci := 9) (v := Value.ref (b 55)) (C := "CommitLedgerModel$Version") (T := F_Ve) (N := 11) hx hb hts i_Ve hown hK Y gF_54 rfl 0 (by decide) kf_Mo_125 rfl d_Mo_flushing_64 ?_
        refine lv_iload_n hx hb d_Mo_flushing_67 rfl (lv_at hl 0 rfl) ?_
        refine lv_iload_n hx hb d_Mo_flushing_68 rfl (lv_at hl 1 rfl) ?_
        refine gy_iast hf hx hb hK Y 0 (fun _ => gF_55) ht0 d_Mo_flushing_69 (fun X57 H locs hf Y => ?_)
        refine lv_aload_n hx hb d_Mo_flushing_70 rfl (lv_at hl 3 rfl) ?_
        refine gy_get (ci := 8) (v := Value.ref (b 54)) (C := "CommitLedgerModel") (T := F_Mo) (N := 35) hx hb hts i_Mo hown hK Y gF_46 rfl 15 (by decide) kf_Mo_40 rfl d_Mo_flushing_71 ?_
        refine gy_get (ci := 9) (v := Value.ref (b 56)) (C := "CommitLedgerModel$Version") (T := F_Ve) (N := 11) hx hb hts i_Ve hown hK Y gF_54 rfl 1 (by decide) kf_Mo_132 rfl d_Mo_flushing_74 ?_
        refine lv_iload_n hx hb d_Mo_flushing_77 rfl (lv_at hl 0 rfl) ?_
        refine lv_iconst (v := (-1)) hx hb d_Mo_flushing_78 (by decide) ?_
        refine gy_iast hf hx hb hK Y 0 (fun _ => gF_56) ht0 d_Mo_flushing_79 (fun X58 H locs hf Y => ?_)
        refine lv_aload_n hx hb d_Mo_flushing_80 rfl (lv_at hl 3 rfl) ?_
        refine gy_get (ci := 8) (v := Value.ref (b 54)) (C := "CommitLedgerModel") (T := F_Mo) (N := 35) hx hb hts i_Mo hown hK Y gF_46 rfl 15 (by decide) kf_Mo_40 rfl d_Mo_flushing_81 ?_
        refine gy_get (ci := 9) (v := Value.ref (b 58)) (C := "CommitLedgerModel$Version") (T := F_Ve) (N := 11) hx hb hts i_Ve hown hK Y gF_54 rfl 3 (by decide) kf_Mo_166 rfl d_Mo_flushing_84 ?_
        refine lv_iload_n hx hb d_Mo_flushing_87 rfl (lv_at hl 0 rfl) ?_
        refine lv_iconst (v := 0) hx hb d_Mo_flushing_88 (by decide) ?_
        refine gy_iast hf hx hb hK Y 0 (fun _ => gF_58) ht0 d_Mo_flushing_89 (fun X59 H locs hf Y => ?_)
        refine lv_iload_n hx hb d_Mo_flushing_90 rfl (lv_at hl 0 rfl) ?_
        refine lv_if_ne (tgt := 104) hx hb d_Mo_flushing_91 (by decide) (fun c91_60 => ?_) (fun c91_60 => ?_)
        · replace hf := gp_f c91_60 hf
          replace hf := gU hf ho50
          exact J104 (X59, X55.I 54 7) _ _ _ hf (lv_sub hl [0, 3] rfl) Y
        · replace hf := gp_t c91_60 hf
          refine lv_aload_n hx hb d_Mo_flushing_94 rfl (lv_at hl 3 rfl) ?_
          refine gy_get (ci := 8) (v := Value.ref (b 54)) (C := "CommitLedgerModel") (T := F_Mo) (N := 35) hx hb hts i_Mo hown hK Y gF_46 rfl 15 (by decide) kf_Mo_40 rfl d_Mo_flushing_95 ?_
          refine gy_get (ci := 9) (v := Value.ref (b 57)) (C := "CommitLedgerModel$Version") (T := F_Ve) (N := 11) hx hb hts i_Ve hown hK Y gF_54 rfl 2 (by decide) kf_Mo_182 rfl d_Mo_flushing_98 ?_
          refine lv_iconst (v := 0) hx hb d_Mo_flushing_101 (by decide) ?_
          refine lv_iconst (v := 0) hx hb d_Mo_flushing_102 (by decide) ?_
          refine gy_iast hf hx hb hK Y 0 (fun _ => gF_57) ht0 d_Mo_flushing_103 (fun X61 H locs hf Y => ?_)
          replace hf := gU hf ho50
          exact J104 (X61, X55.I 54 7) _ _ _ hf (lv_sub hl [0, 3] rfl) Y
      · replace hf := gp_f c47_56 hf
        refine lv_iconst (v := 0) hx hb d_Mo_flushing_50 (by decide) ?_
        replace hf := gU hf ho50
        exact gy_zret hf hx hb hr hlocks hK Y (Nat.zero_le _) (Nat.zero_le _) rfl d_Mo_flushing_51
  · replace hf := gp_f c9_53 hf
    refine lv_iload_n hx hb d_Mo_flushing_12 rfl (lv_at hl 0 rfl) ?_
    refine lv_if_ne (tgt := 25) hx hb d_Mo_flushing_13 (by decide) (fun c13_62 => ?_) (fun c13_62 => ?_)
    · replace hf := gp_f c13_62 hf
      exact J25 i2_50 _ _ _ hf (lv_sub hl [1, 2] rfl) Y
    · replace hf := gp_t c13_62 hf
      refine lv_aload_n hx hb d_Mo_flushing_16 rfl (lv_at hl 2 rfl) ?_
      refine gy_get (ci := 8) (v := Value.ref (b 79)) (C := "CommitLedgerModel") (T := F_Mo) (N := 35) hx hb hts i_Mo hown hK Y gF_46 rfl 22 (by decide) kf_Mo_53 rfl d_Mo_flushing_17 ?_
      refine lv_iload_n hx hb d_Mo_flushing_20 rfl (lv_at hl 1 rfl) ?_
      refine gy_zald hf hx hb hK Y 1 (fun _ => gF_79) ht1 d_Mo_flushing_21 (fun _ hf => ?_)
      refine lv_if_eq (tgt := 29) hx hb d_Mo_flushing_22 (by decide) (fun c22_63 => ?_) (fun c22_63 => ?_)
      · replace hf := gp_t c22_63 hf
        refine lv_iconst (v := 0) hx hb d_Mo_flushing_29 (by decide) ?_
        exact J30 (i2_50, 0) _ _ _ hf (lv_sub hl [1, 2] rfl) Y
      · replace hf := gp_f c22_63 hf
        exact J25 i2_50 _ _ _ hf (lv_sub hl [1, 2] rfl) Y

def f_Mo_level_18 (X : gX) (i2 : Int32) (i3 : Int32) (l4 : Int64) : Option ((Int32 × Int64) ⊕ (gR × gX)) := (if l4 > i2.toInt64 then gLf (some (gR.i i3, X)) else some (Sum.inl (i3 + 1, l4 * ((X.I 46 25).toInt64))))
def f_Mo_level (X0 : gX) (a1 : Int32) : Option (gR × gX) := gCi (f_Ve_liveIn X0 54 a1) (fun x1 X1 => gI (fun s : Int32 × Int64 => f_Mo_level_18 X1 x1 s.1 s.2) gK (0, (X1.I 46 25).toInt64))
set_option maxHeartbeats 4000000 in
set_option maxRecDepth 100000 in
theorem K_Mo_level (l : Launch) (htr : l.stackTraces = false) (D : va_G) (tys : List (ClassId × FieldType)) (z sz : Nat) (ws : va_W) (h : gm_M) (hM : gm_S h ws) (t : Nat → ClassId) (ht : gTy t tys) (b : Nat → Nat) (X0 : gX) (hw : gw D t b X0 h) (a1 : Int32) (o : gR × gX) (hf : f_Mo_level X0 a1 = some o) : gx_Met l y_Mo_level [Cond.code y_Mo_level b_Mo_level 6 (some .int)] { frames := 2, cells := 0, slots := 0, locals := 35 } (gx_P z sz D classes tys ws [Value.ref (b 46), Value.int a1]) (gx_Q D classes tys (va_A ws sz) (gPo D t b X0 o)) (0) (0) (va_A ws sz) := by
  refine gx_ofW (cc := b_Mo_level) (maxL := 6) (ret := (some .int)) (by decide) rfl ?_
  intro p e s m args below meth c s₁ B hml hv
  obtain ⟨rfl, hsz, hz, hP, hK, hD0, hY⟩ := hv
  have hx := B.exec
  have hb := B.bytes
  have hr := B.returns
  have hts := hY.hts (#[Value.ref (b 46), Value.int a1] : Array Value)
  have hown : s.vm.findClass "CommitLedgerModel" = some m.cls := findClass_of_methodNamed B.named
  have hlocks := B.notSynchronized
  subst hsz
  have hAz := gx_az hD0 hz
  have hD := hD0.self (sz := s.heap.size)
  have hA : ∀ q : Nat, s.heap.size ≤ q → va_A ws s.heap.size q := fun q h => Or.inr h
  generalize va_A ws s.heap.size = A at hD hA hAz ⊢
  have Y : gy D t b A s.heap X0 X0 s.heap [] := ⟨h, ⟨ws, hM, hP, hD, va_S.rf⟩, hw, gEq.rf⟩
  clear hP hD hM hD0 hw
  obtain ⟨ht0, ht1, ht2, ht3, ht4, ht5, ht6, ht7, ht8⟩ := id ht
  have hl := lv_entry ([Value.ref (b 46), Value.int a1]) (n := 6) (Nat.le_of_ble_eq_true rfl)
  rw [lg_entry_eq]
  generalize (lg_sl ([Value.ref (b 46), Value.int a1]) ++ List.replicate (6 - (lg_sl ([Value.ref (b 46), Value.int a1])).length) Slot.unset).toArray = ls at hl ⊢
  have hl : lv_has ls 6 [(0, Value.ref (b 46)), (1, Value.int a1)] := hl
  unfold f_Mo_level at hf
  refine lv_aload_n hx hb d_Mo_level_0 rfl (lv_at hl 0 rfl) ?_
  refine gy_get (ci := 8) (v := Value.ref (b 54)) (C := "CommitLedgerModel") (T := F_Mo) (N := 35) hx hb hts i_Mo hown hK Y gF_46 rfl 15 (by decide) kf_Mo_40 rfl d_Mo_level_1 ?_
  refine lv_iload_n hx hb d_Mo_level_4 rfl (lv_at hl 1 rfl) ?_
  obtain ⟨x5, X5, hF5, hf⟩ := gCi_el hf
  refine gy_callI (rm := { frames := 1, cells := 0, slots := 0, locals := 12 }) (ig := .invokevirtual 202) (av := [Value.ref (b 54), Value.int a1]) Y (fun ws h hS hw => K_Ve_liveIn l htr D tys z _ ws h hS t ht b X0 hw 54 (by decide) a1 (gR.i x5, X5) hF5) (gx_invV (As := [Value.int a1]) (rest := []) hx hb hown hts km_Mo_202 kI_Ve_liveIn kV_Ve_liveIn kc_Ve_liveIn (by decide) (show (parseMethodDescriptor y_Ve_liveIn.desc).map (fun d => d.parameters.length) = some 1 by decide +kernel) (gy_recv (ci := 9) hK Y rfl gF_54) rfl rfl d_Mo_level_5) (gx_cw (z := 0) hts kc_Ve_liveIn kN_Ve rfl rfl ⟨Nat.le_of_ble_eq_true rfl, Nat.le_of_ble_eq_true rfl⟩) hb hml hz hK hY hAz hA hl.1 (lv_room (Nat.le_of_ble_eq_true rfl)) d_Mo_level_5 ⟨Nat.zero_le _, Nat.zero_le _⟩ (fun H locs Y => ?_)
  refine lv_istore_n (lv' := [(2, Value.int x5), (0, Value.ref (b 46)), (1, Value.int a1)]) hx hb d_Mo_level_8 rfl hl (by decide) rfl (fun ls hl => ?_)
  refine lv_iconst (v := 0) hx hb d_Mo_level_9 (by decide) ?_
  refine lv_istore_n (lv' := [(3, Value.int 0), (2, Value.int x5), (0, Value.ref (b 46)), (1, Value.int a1)]) hx hb d_Mo_level_10 rfl hl (by decide) rfl (fun ls hl => ?_)
  refine lv_aload_n hx hb d_Mo_level_11 rfl (lv_at hl 2 rfl) ?_
  refine gy_get (ci := 8) (v := Value.int (X5.I 46 25)) (C := "CommitLedgerModel") (T := F_Mo) (N := 35) hx hb hts i_Mo hown hK Y gF_46 rfl 25 (by decide) kf_Mo_59 rfl d_Mo_level_12 ?_
  refine lv_i2l (v := (X5.I 46 25).toInt64) hx hb d_Mo_level_15 rfl ?_
  refine lv_lstore (lv' := [(4, Value.long ((X5.I 46 25).toInt64)), (3, Value.int 0), (2, Value.int x5), (0, Value.ref (b 46)), (1, Value.int a1)]) hx hb d_Mo_level_16 hl (by decide) rfl (fun ls hl => ?_)
  refine gy_iter (fun s : Int32 × Int64 => X5) (fun (s : Int32 × Int64) ls => lv_has ls 6 [(3, Value.int s.1), (4, Value.long s.2), (0, Value.ref (b 46)), (2, Value.int x5)]) ?_ gK (0, (X5.I 46 25).toInt64) _ _ _ hf (lv_sub hl [1, 0, 3, 2] rfl) Y
  rintro ⟨i3_6, l4_6⟩ u6 H locs ls hf hl Y hk6 ho6
  have hl : lv_has ls 6 [(3, Value.int i3_6), (4, Value.long l4_6), (0, Value.ref (b 46)), (2, Value.int x5)] := hl
  have Y : gy D t b A s.heap X0 X5 H locs := Y
  have hf : f_Mo_level_18 X5 x5 i3_6 l4_6 = some u6 := hf
  unfold f_Mo_level_18 at hf
  refine lv_lload hx hb d_Mo_level_18 (lv_at hl 1 rfl) ?_
  refine lv_iload_n hx hb d_Mo_level_20 rfl (lv_at hl 3 rfl) ?_
  refine lv_i2l (v := x5.toInt64) hx hb d_Mo_level_21 rfl ?_
  refine gx_lgt (tgt := 42) hx hb d_Mo_level_22 d_Mo_level_23 (by decide) (fun c22_7 => ?_) (fun c22_7 => ?_)
  · replace hf := gp_t c22_7 hf
    refine lv_iload_n hx hb d_Mo_level_42 rfl (lv_at hl 0 rfl) ?_
    replace hf := gU hf ho6
    exact gy_iret hf hx hb hr hlocks hK Y (Nat.zero_le _) (Nat.zero_le _) d_Mo_level_43
  · replace hf := gp_f c22_7 hf
    refine lv_iinc (v := i3_6 + 1) (lv' := [(3, Value.int (i3_6 + 1)), (4, Value.long l4_6), (0, Value.ref (b 46)), (2, Value.int x5)]) hx hb d_Mo_level_26 hl (k := 0) rfl (rfl) (by decide) rfl (fun ls hl => ?_)
    refine lv_lload hx hb d_Mo_level_29 (lv_at hl 1 rfl) ?_
    refine lv_aload_n hx hb d_Mo_level_31 rfl (lv_at hl 2 rfl) ?_
    refine gy_get (ci := 8) (v := Value.int (X5.I 46 25)) (C := "CommitLedgerModel") (T := F_Mo) (N := 35) hx hb hts i_Mo hown hK Y gF_46 rfl 25 (by decide) kf_Mo_59 rfl d_Mo_level_32 ?_
    refine lv_i2l (v := (X5.I 46 25).toInt64) hx hb d_Mo_level_35 rfl ?_
    refine lv_lmul hx hb d_Mo_level_36 ?_
    refine lv_lstore (lv' := [(4, Value.long (l4_6 * ((X5.I 46 25).toInt64))), (3, Value.int (i3_6 + 1)), (0, Value.ref (b 46)), (2, Value.int x5)]) hx hb d_Mo_level_37 hl (by decide) rfl (fun ls hl => ?_)
    refine lv_goto (tgt := 18) hx hb d_Mo_level_39 (by decide) ?_
    exact hk6 _ _ _ _ hf (lv_sub hl [1, 0, 2, 3] rfl) Y

def f_Mo_row_49 (X : gX) : Option (gR × gX) := some (gR.i 0, X)
def f_Mo_row_18 (X : gX) (i1 : Int32) (i2 : Int32) (i3 : Int32) (i4 : Int32) : Option ((gX × Int32) ⊕ (gR × gX)) := (if (i1 + i2) ≤ i4 then gLf (some (gR.i 1, X)) else (if gIn i4 4097 then (if (X.I 58 (gn i4)) = (0 : Int32) then gCi (f_Mo_level X i4) (fun x5 X5 => (if x5 ≤ i3 then some (Sum.inl (X5, i4 + 1)) else gLf (f_Mo_row_49 X5))) else gLf (f_Mo_row_49 X)) else none))
def f_Mo_row (X0 : gX) (a1 : Int32) (a2 : Int32) (a3 : Int32) : Option (gR × gX) := (if (a1 + a2) ≤ (X0.I 54 7) then gI (fun s : gX × Int32 => f_Mo_row_18 s.1 a1 a2 a3 s.2) gK (X0, a1) else some (gR.i 0, X0))
set_option maxHeartbeats 4000000 in
set_option maxRecDepth 100000 in
theorem K_Mo_row (l : Launch) (htr : l.stackTraces = false) (D : va_G) (tys : List (ClassId × FieldType)) (z sz : Nat) (ws : va_W) (h : gm_M) (hM : gm_S h ws) (t : Nat → ClassId) (ht : gTy t tys) (b : Nat → Nat) (X0 : gX) (hw : gw D t b X0 h) (a1 : Int32) (a2 : Int32) (a3 : Int32) (o : gR × gX) (hf : f_Mo_row X0 a1 a2 a3 = some o) : gx_Met l y_Mo_row [Cond.code y_Mo_row b_Mo_row 5 (some .boolean)] { frames := 3, cells := 0, slots := 0, locals := 60 } (gx_P z sz D classes tys ws [Value.ref (b 46), Value.int a1, Value.int a2, Value.int a3]) (gx_Q D classes tys (va_A ws sz) (gPo D t b X0 o)) (0) (0) (va_A ws sz) := by
  refine gx_ofW (cc := b_Mo_row) (maxL := 5) (ret := (some .boolean)) (by decide) rfl ?_
  intro p e s m args below meth c s₁ B hml hv
  obtain ⟨rfl, hsz, hz, hP, hK, hD0, hY⟩ := hv
  have hx := B.exec
  have hb := B.bytes
  have hr := B.returns
  have hts := hY.hts (#[Value.ref (b 46), Value.int a1, Value.int a2, Value.int a3] : Array Value)
  have hown : s.vm.findClass "CommitLedgerModel" = some m.cls := findClass_of_methodNamed B.named
  have hlocks := B.notSynchronized
  subst hsz
  have hAz := gx_az hD0 hz
  have hD := hD0.self (sz := s.heap.size)
  have hA : ∀ q : Nat, s.heap.size ≤ q → va_A ws s.heap.size q := fun q h => Or.inr h
  generalize va_A ws s.heap.size = A at hD hA hAz ⊢
  have Y : gy D t b A s.heap X0 X0 s.heap [] := ⟨h, ⟨ws, hM, hP, hD, va_S.rf⟩, hw, gEq.rf⟩
  clear hP hD hM hD0 hw
  obtain ⟨ht0, ht1, ht2, ht3, ht4, ht5, ht6, ht7, ht8⟩ := id ht
  have hl := lv_entry ([Value.ref (b 46), Value.int a1, Value.int a2, Value.int a3]) (n := 5) (Nat.le_of_ble_eq_true rfl)
  rw [lg_entry_eq]
  generalize (lg_sl ([Value.ref (b 46), Value.int a1, Value.int a2, Value.int a3]) ++ List.replicate (5 - (lg_sl ([Value.ref (b 46), Value.int a1, Value.int a2, Value.int a3])).length) Slot.unset).toArray = ls at hl ⊢
  have hl : lv_has ls 5 [(0, Value.ref (b 46)), (1, Value.int a1), (2, Value.int a2), (3, Value.int a3)] := hl
  refine gy_cut (pcJ := 49) Y (fun s : gX => f_Mo_row_49 s) o (fun s => s) (fun s ls => lv_has ls 5 []) (fun s => []) ?_ (fun J49 => ?_)
  · rintro X11 H locs ls hf hl Y
    have hl : lv_has ls 5 [] := hl
    have Y : gy D t b A s.heap X0 X11 H locs := Y
    have hf : f_Mo_row_49 X11 = some o := hf
    unfold f_Mo_row_49 at hf
    refine lv_iconst (v := 0) hx hb d_Mo_row_49 (by decide) ?_
    exact gy_zret hf hx hb hr hlocks hK Y (Nat.zero_le _) (Nat.zero_le _) rfl d_Mo_row_50
  unfold f_Mo_row at hf
  refine lv_iload_n hx hb d_Mo_row_0 rfl (lv_at hl 1 rfl) ?_
  refine lv_iload_n hx hb d_Mo_row_1 rfl (lv_at hl 2 rfl) ?_
  refine lv_iadd hx hb d_Mo_row_2 ?_
  refine lv_aload_n hx hb d_Mo_row_3 rfl (lv_at hl 0 rfl) ?_
  refine gy_get (ci := 8) (v := Value.ref (b 54)) (C := "CommitLedgerModel") (T := F_Mo) (N := 35) hx hb hts i_Mo hown hK Y gF_46 rfl 15 (by decide) kf_Mo_40 rfl d_Mo_row_4 ?_
  refine gy_get (ci := 9) (v := Value.int (X0.I 54 7)) (C := "CommitLedgerModel$Version") (T := F_Ve) (N := 11) hx hb hts i_Ve hown hK Y gF_54 rfl 7 (by decide) kf_Mo_122 rfl d_Mo_row_7 ?_
  refine lv_icmp_le (tgt := 15) hx hb d_Mo_row_10 (by decide) (fun c10_12 => ?_) (fun c10_12 => ?_)
  · replace hf := gp_t c10_12 hf
    refine lv_iload_n hx hb d_Mo_row_15 rfl (lv_at hl 1 rfl) ?_
    refine lv_istore (lv' := [(4, Value.int a1), (0, Value.ref (b 46)), (1, Value.int a1), (2, Value.int a2), (3, Value.int a3)]) hx hb d_Mo_row_16 hl (by decide) rfl (fun ls hl => ?_)
    refine gy_iter (fun s : gX × Int32 => s.1) (fun (s : gX × Int32) ls => lv_has ls 5 [(4, Value.int s.2), (0, Value.ref (b 46)), (1, Value.int a1), (2, Value.int a2), (3, Value.int a3)]) ?_ gK (X0, a1) _ _ _ hf (lv_sub hl [0, 1, 2, 3, 4] rfl) Y
    rintro ⟨X13, i4_13⟩ u13 H locs ls hf hl Y hk13 ho13
    have hl : lv_has ls 5 [(4, Value.int i4_13), (0, Value.ref (b 46)), (1, Value.int a1), (2, Value.int a2), (3, Value.int a3)] := hl
    have Y : gy D t b A s.heap X0 X13 H locs := Y
    have hf : f_Mo_row_18 X13 a1 a2 a3 i4_13 = some u13 := hf
    unfold f_Mo_row_18 at hf
    refine lv_iload hx hb d_Mo_row_18 (lv_at hl 0 rfl) ?_
    refine lv_iload_n hx hb d_Mo_row_20 rfl (lv_at hl 2 rfl) ?_
    refine lv_iload_n hx hb d_Mo_row_21 rfl (lv_at hl 3 rfl) ?_
    refine lv_iadd hx hb d_Mo_row_22 ?_
    refine lv_icmp_ge (tgt := 57) hx hb d_Mo_row_23 (by decide) (fun c23_14 => ?_) (fun c23_14 => ?_)
    · replace hf := gp_t c23_14 hf
      refine lv_iconst (v := 1) hx hb d_Mo_row_57 (by decide) ?_
      replace hf := gU hf ho13
      exact gy_zret hf hx hb hr hlocks hK Y (Nat.zero_le _) (Nat.zero_le _) rfl d_Mo_row_58
    · replace hf := gp_f c23_14 hf
      refine lv_aload_n hx hb d_Mo_row_26 rfl (lv_at hl 1 rfl) ?_
      refine gy_get (ci := 8) (v := Value.ref (b 54)) (C := "CommitLedgerModel") (T := F_Mo) (N := 35) hx hb hts i_Mo hown hK Y gF_46 rfl 15 (by decide) kf_Mo_40 rfl d_Mo_row_27 ?_
      refine gy_get (ci := 9) (v := Value.ref (b 58)) (C := "CommitLedgerModel$Version") (T := F_Ve) (N := 11) hx hb hts i_Ve hown hK Y gF_54 rfl 3 (by decide) kf_Mo_166 rfl d_Mo_row_30 ?_
      refine lv_iload hx hb d_Mo_row_33 (lv_at hl 0 rfl) ?_
      refine gy_iald hf hx hb hK Y 0 (fun _ => gF_58) ht0 d_Mo_row_35 (fun _ hf => ?_)
      refine lv_if_ne (tgt := 49) hx hb d_Mo_row_36 (by decide) (fun c36_15 => ?_) (fun c36_15 => ?_)
      · replace hf := gp_f c36_15 hf
        replace hf := gU hf ho13
        exact J49 X13 _ _ _ hf (lv_sub hl [] rfl) Y
      · replace hf := gp_t c36_15 hf
        refine lv_aload_n hx hb d_Mo_row_39 rfl (lv_at hl 1 rfl) ?_
        refine lv_iload hx hb d_Mo_row_40 (lv_at hl 0 rfl) ?_
        obtain ⟨x16, X16, hF16, hf⟩ := gCi_el hf
        refine gy_callI (rm := { frames := 2, cells := 0, slots := 0, locals := 35 }) (ig := .invokevirtual 205) (av := [Value.ref (b 46), Value.int i4_13]) Y (fun ws h hS hw => K_Mo_level l htr D tys z _ ws h hS t ht b X13 hw i4_13 (gR.i x16, X16) hF16) (gx_invV (As := [Value.int i4_13]) (rest := []) hx hb hown hts km_Mo_205 kI_Mo_level kV_Mo_level kc_Mo_level (by decide) (show (parseMethodDescriptor y_Mo_level.desc).map (fun d => d.parameters.length) = some 1 by decide +kernel) (gy_recv (ci := 8) hK Y rfl gF_46) rfl rfl d_Mo_row_42) (gx_cw (z := 0) hts kc_Mo_level kN_Mo rfl rfl ⟨Nat.le_of_ble_eq_true rfl, Nat.le_of_ble_eq_true rfl⟩) hb hml hz hK hY hAz hA hl.1 (lv_room (Nat.le_of_ble_eq_true rfl)) d_Mo_row_42 ⟨Nat.zero_le _, Nat.zero_le _⟩ (fun H locs Y => ?_)
        refine lv_iload_n hx hb d_Mo_row_45 rfl (lv_at hl 4 rfl) ?_
        refine lv_icmp_le (tgt := 51) hx hb d_Mo_row_46 (by decide) (fun c46_17 => ?_) (fun c46_17 => ?_)
        · replace hf := gp_t c46_17 hf
          refine lv_iinc (v := i4_13 + 1) (lv' := [(4, Value.int (i4_13 + 1)), (0, Value.ref (b 46)), (1, Value.int a1), (2, Value.int a2), (3, Value.int a3)]) hx hb d_Mo_row_51 hl (k := 0) rfl (rfl) (by decide) rfl (fun ls hl => ?_)
          refine lv_goto (tgt := 18) hx hb d_Mo_row_54 (by decide) ?_
          exact hk13 _ _ _ _ hf (lv_sub hl [0, 1, 2, 3, 4] rfl) Y
        · replace hf := gp_f c46_17 hf
          replace hf := gU hf ho13
          exact J49 X16 _ _ _ hf (lv_sub hl [] rfl) Y
  · replace hf := gp_f c10_12 hf
    refine lv_iconst (v := 0) hx hb d_Mo_row_13 (by decide) ?_
    exact gy_zret hf hx hb hr hlocks hK Y (Nat.zero_le _) (Nat.zero_le _) rfl d_Mo_row_14

def f_Mo_chosen_89 (X : gX) : Option (gR × gX) := some (gR.i 0, X)
def f_Mo_chosen_93 (X : gX) : Option (gR × gX) := some (gR.i (-1), X)
def f_Mo_chosen_18 (X : gX) (i2 : Int32) : Option ((Int32) ⊕ (gR × gX)) := (if (X.I 54 7) ≤ i2 then (if (1 : Int32) < (X.I 54 7) then gLf (f_Mo_chosen_89 X) else (if (X.I 54 7) = (1 : Int32) then gCi (f_Ve_liveIn X 54 0) (fun x22 X22 => gCi (f_Ve_docs X22 54) (fun x23 X23 => (if x23 ≤ x22 then gLf (f_Mo_chosen_93 X23) else gLf (f_Mo_chosen_89 X23)))) else gLf (f_Mo_chosen_93 X))) else (if gIn i2 4097 then (if (X.I 58 (gn i2)) = (0 : Int32) then some (Sum.inl (i2 + 1)) else gLf (some (gR.i (-1), X))) else none))
def f_Mo_chosen_113 (X : gX) (i2 : Int32) (i3 : Int32) : Option ((gX × Int32) ⊕ ((gX × Int32) ⊕ (gR × gX))) := (if (X.I 54 7) ≤ i3 then gLf (some (Sum.inl (X, i2 + 1))) else gCi (f_Mo_row X i3 (X.I 46 25) i2) (fun x7 X7 => (if x7 = (0 : Int32) then some (Sum.inl (X7, i3 + 1)) else gLf (gLf (some (gR.i i3, X7))))))
def f_Mo_chosen_105 (X : gX) (i2 : Int32) : Option ((gX × Int32) ⊕ (gR × gX)) := (if (13 : Int32) ≤ i2 then gLf (some (gR.i (-1), X)) else gI (fun s : gX × Int32 => f_Mo_chosen_113 s.1 i2 s.2) gK (X, 0))
def f_Mo_chosen (X0 : gX) (a1 : Int32) : Option (gR × gX) := (if a1 = (1 : Int32) then gB (X0.w 46 33 (X0.I 54 7)) (fun X17 => gI (fun s : Int32 => f_Mo_chosen_18 X17 s) gK 0) else gB (X0.w 46 33 (X0.I 46 25)) (fun X2 => gI (fun s : gX × Int32 => f_Mo_chosen_105 s.1 s.2) gK (X2, 0)))
set_option maxHeartbeats 4000000 in
set_option maxRecDepth 100000 in
theorem K_Mo_chosen (l : Launch) (htr : l.stackTraces = false) (D : va_G) (tys : List (ClassId × FieldType)) (z sz : Nat) (ws : va_W) (h : gm_M) (hM : gm_S h ws) (t : Nat → ClassId) (ht : gTy t tys) (b : Nat → Nat) (X0 : gX) (hw : gw D t b X0 h) (a1 : Int32) (o : gR × gX) (hf : f_Mo_chosen X0 a1 = some o) : gx_Met l y_Mo_chosen [Cond.code y_Mo_chosen b_Mo_chosen 4 (some .int)] { frames := 4, cells := 0, slots := 0, locals := 84 } (gx_P z sz D classes tys ws [Value.ref (b 46), Value.int a1]) (gx_Q D classes tys (va_A ws sz) (gPo D t b X0 o)) (0) (0) (va_A ws sz) := by
  refine gx_ofW (cc := b_Mo_chosen) (maxL := 4) (ret := (some .int)) (by decide) rfl ?_
  intro p e s m args below meth c s₁ B hml hv
  obtain ⟨rfl, hsz, hz, hP, hK, hD0, hY⟩ := hv
  have hx := B.exec
  have hb := B.bytes
  have hr := B.returns
  have hts := hY.hts (#[Value.ref (b 46), Value.int a1] : Array Value)
  have hown : s.vm.findClass "CommitLedgerModel" = some m.cls := findClass_of_methodNamed B.named
  have hlocks := B.notSynchronized
  subst hsz
  have hAz := gx_az hD0 hz
  have hD := hD0.self (sz := s.heap.size)
  have hA : ∀ q : Nat, s.heap.size ≤ q → va_A ws s.heap.size q := fun q h => Or.inr h
  generalize va_A ws s.heap.size = A at hD hA hAz ⊢
  have Y : gy D t b A s.heap X0 X0 s.heap [] := ⟨h, ⟨ws, hM, hP, hD, va_S.rf⟩, hw, gEq.rf⟩
  clear hP hD hM hD0 hw
  obtain ⟨ht0, ht1, ht2, ht3, ht4, ht5, ht6, ht7, ht8⟩ := id ht
  have hl := lv_entry ([Value.ref (b 46), Value.int a1]) (n := 4) (Nat.le_of_ble_eq_true rfl)
  rw [lg_entry_eq]
  generalize (lg_sl ([Value.ref (b 46), Value.int a1]) ++ List.replicate (4 - (lg_sl ([Value.ref (b 46), Value.int a1])).length) Slot.unset).toArray = ls at hl ⊢
  have hl : lv_has ls 4 [(0, Value.ref (b 46)), (1, Value.int a1)] := hl
  refine gy_cut (pcJ := 93) Y (fun s : gX => f_Mo_chosen_93 s) o (fun s => s) (fun s ls => lv_has ls 4 []) (fun s => []) ?_ (fun J93 => ?_)
  · rintro X33 H locs ls hf hl Y
    have hl : lv_has ls 4 [] := hl
    have Y : gy D t b A s.heap X0 X33 H locs := Y
    have hf : f_Mo_chosen_93 X33 = some o := hf
    unfold f_Mo_chosen_93 at hf
    refine lv_iconst (v := (-1)) hx hb d_Mo_chosen_93 (by decide) ?_
    exact gy_iret hf hx hb hr hlocks hK Y (Nat.zero_le _) (Nat.zero_le _) d_Mo_chosen_94
  refine gy_cut (pcJ := 89) Y (fun s : gX => f_Mo_chosen_89 s) o (fun s => s) (fun s ls => lv_has ls 4 []) (fun s => []) ?_ (fun J89 => ?_)
  · rintro X34 H locs ls hf hl Y
    have hl : lv_has ls 4 [] := hl
    have Y : gy D t b A s.heap X0 X34 H locs := Y
    have hf : f_Mo_chosen_89 X34 = some o := hf
    unfold f_Mo_chosen_89 at hf
    refine lv_iconst (v := 0) hx hb d_Mo_chosen_89 (by decide) ?_
    refine lv_goto (tgt := 94) hx hb d_Mo_chosen_90 (by decide) ?_
    exact gy_iret hf hx hb hr hlocks hK Y (Nat.zero_le _) (Nat.zero_le _) d_Mo_chosen_94
  unfold f_Mo_chosen at hf
  refine lv_iload_n hx hb d_Mo_chosen_0 rfl (lv_at hl 1 rfl) ?_
  refine lv_iconst (v := 1) hx hb d_Mo_chosen_1 (by decide) ?_
  refine lv_icmp_ne (tgt := 95) hx hb d_Mo_chosen_2 (by decide) (fun c2_35 => ?_) (fun c2_35 => ?_)
  · replace hf := gp_f c2_35 hf
    refine lv_aload_n hx hb d_Mo_chosen_95 rfl (lv_at hl 0 rfl) ?_
    refine lv_aload_n hx hb d_Mo_chosen_96 rfl (lv_at hl 0 rfl) ?_
    refine gy_get (ci := 8) (v := Value.int (X0.I 46 25)) (C := "CommitLedgerModel") (T := F_Mo) (N := 35) hx hb hts i_Mo hown hK Y gF_46 rfl 25 (by decide) kf_Mo_59 rfl d_Mo_chosen_97 ?_
    refine gy_put hf (ci := 8) (ty := .int) (C := "CommitLedgerModel") (T := F_Mo) (N := 35) hx hb hts i_Mo t_Mo_ok n_Mo hown hK Y gF_46 rfl (by decide) kf_Mo_208 rfl (by decide +kernel) rfl rfl (Nat.le_of_ble_eq_true rfl) gF_46 d_Mo_chosen_100 (fun X36 H locs hf Y => ?_)
    refine lv_iconst (v := 0) hx hb d_Mo_chosen_103 (by decide) ?_
    refine lv_istore_n (lv' := [(2, Value.int 0), (0, Value.ref (b 46)), (1, Value.int a1)]) hx hb d_Mo_chosen_104 rfl hl (by decide) rfl (fun ls hl => ?_)
    refine gy_iter (fun s : gX × Int32 => s.1) (fun (s : gX × Int32) ls => lv_has ls 4 [(2, Value.int s.2), (0, Value.ref (b 46))]) ?_ gK (X36, 0) _ _ _ hf (lv_sub hl [0, 1] rfl) Y
    rintro ⟨X37, i2_37⟩ u37 H locs ls hf hl Y hk37 ho37
    have hl : lv_has ls 4 [(2, Value.int i2_37), (0, Value.ref (b 46))] := hl
    have Y : gy D t b A s.heap X0 X37 H locs := Y
    have hf : f_Mo_chosen_105 X37 i2_37 = some u37 := hf
    unfold f_Mo_chosen_105 at hf
    refine lv_iload_n hx hb d_Mo_chosen_105 rfl (lv_at hl 0 rfl) ?_
    refine lv_bipush (v := 13) hx hb d_Mo_chosen_106 (by decide) ?_
    refine lv_icmp_ge (tgt := 151) hx hb d_Mo_chosen_108 (by decide) (fun c108_38 => ?_) (fun c108_38 => ?_)
    · replace hf := gp_t c108_38 hf
      refine lv_iconst (v := (-1)) hx hb d_Mo_chosen_151 (by decide) ?_
      replace hf := gU hf ho37
      exact gy_iret hf hx hb hr hlocks hK Y (Nat.zero_le _) (Nat.zero_le _) d_Mo_chosen_152
    · replace hf := gp_f c108_38 hf
      refine lv_iconst (v := 0) hx hb d_Mo_chosen_111 (by decide) ?_
      refine lv_istore_n (lv' := [(3, Value.int 0), (2, Value.int i2_37), (0, Value.ref (b 46))]) hx hb d_Mo_chosen_112 rfl hl (by decide) rfl (fun ls hl => ?_)
      refine gy_iter (fun s : gX × Int32 => s.1) (fun (s : gX × Int32) ls => lv_has ls 4 [(3, Value.int s.2), (0, Value.ref (b 46)), (2, Value.int i2_37)]) ?_ gK (X37, 0) _ _ _ hf (lv_sub hl [0, 2, 1] rfl) Y
      rintro ⟨X39, i3_39⟩ u39 H locs ls hf hl Y hk39 ho39
      have hl : lv_has ls 4 [(3, Value.int i3_39), (0, Value.ref (b 46)), (2, Value.int i2_37)] := hl
      have Y : gy D t b A s.heap X0 X39 H locs := Y
      have hf : f_Mo_chosen_113 X39 i2_37 i3_39 = some u39 := hf
      unfold f_Mo_chosen_113 at hf
      refine lv_iload_n hx hb d_Mo_chosen_113 rfl (lv_at hl 0 rfl) ?_
      refine lv_aload_n hx hb d_Mo_chosen_114 rfl (lv_at hl 1 rfl) ?_
      refine gy_get (ci := 8) (v := Value.ref (b 54)) (C := "CommitLedgerModel") (T := F_Mo) (N := 35) hx hb hts i_Mo hown hK Y gF_46 rfl 15 (by decide) kf_Mo_40 rfl d_Mo_chosen_115 ?_
      refine gy_get (ci := 9) (v := Value.int (X39.I 54 7)) (C := "CommitLedgerModel$Version") (T := F_Ve) (N := 11) hx hb hts i_Ve hown hK Y gF_54 rfl 7 (by decide) kf_Mo_122 rfl d_Mo_chosen_118 ?_
      refine lv_icmp_ge (tgt := 145) hx hb d_Mo_chosen_121 (by decide) (fun c121_40 => ?_) (fun c121_40 => ?_)
      · replace hf := gp_t c121_40 hf
        refine lv_iinc (v := i2_37 + 1) (lv' := [(2, Value.int (i2_37 + 1)), (3, Value.int i3_39), (0, Value.ref (b 46))]) hx hb d_Mo_chosen_145 hl (k := 2) rfl (rfl) (by decide) rfl (fun ls hl => ?_)
        refine lv_goto (tgt := 105) hx hb d_Mo_chosen_148 (by decide) ?_
        replace hf := gU hf ho39
        exact hk37 _ _ _ _ hf (lv_sub hl [0, 2] rfl) Y
      · replace hf := gp_f c121_40 hf
        refine lv_aload_n hx hb d_Mo_chosen_124 rfl (lv_at hl 1 rfl) ?_
        refine lv_iload_n hx hb d_Mo_chosen_125 rfl (lv_at hl 0 rfl) ?_
        refine lv_aload_n hx hb d_Mo_chosen_126 rfl (lv_at hl 1 rfl) ?_
        refine gy_get (ci := 8) (v := Value.int (X39.I 46 25)) (C := "CommitLedgerModel") (T := F_Mo) (N := 35) hx hb hts i_Mo hown hK Y gF_46 rfl 25 (by decide) kf_Mo_59 rfl d_Mo_chosen_127 ?_
        refine lv_iload_n hx hb d_Mo_chosen_130 rfl (lv_at hl 2 rfl) ?_
        obtain ⟨x41, X41, hF41, hf⟩ := gCi_el hf
        refine gy_callI (rm := { frames := 3, cells := 0, slots := 0, locals := 60 }) (ig := .invokevirtual 211) (av := [Value.ref (b 46), Value.int i3_39, Value.int (X39.I 46 25), Value.int i2_37]) Y (fun ws h hS hw => K_Mo_row l htr D tys z _ ws h hS t ht b X39 hw i3_39 (X39.I 46 25) i2_37 (gR.i x41, X41) hF41) (gx_invV (As := [Value.int i3_39, Value.int (X39.I 46 25), Value.int i2_37]) (rest := []) hx hb hown hts km_Mo_211 kI_Mo_row kV_Mo_row kc_Mo_row (by decide) (show (parseMethodDescriptor y_Mo_row.desc).map (fun d => d.parameters.length) = some 3 by decide +kernel) (gy_recv (ci := 8) hK Y rfl gF_46) rfl rfl d_Mo_chosen_131) (gx_cw (z := 0) hts kc_Mo_row kN_Mo rfl rfl ⟨Nat.le_of_ble_eq_true rfl, Nat.le_of_ble_eq_true rfl⟩) hb hml hz hK hY hAz hA hl.1 (lv_room (Nat.le_of_ble_eq_true rfl)) d_Mo_chosen_131 ⟨Nat.zero_le _, Nat.zero_le _⟩ (fun H locs Y => ?_)
        refine lv_if_eq (tgt := 139) hx hb d_Mo_chosen_134 (by decide) (fun c134_42 => ?_) (fun c134_42 => ?_)
        · replace hf := gp_t c134_42 hf
          refine lv_iinc (v := i3_39 + 1) (lv' := [(3, Value.int (i3_39 + 1)), (0, Value.ref (b 46)), (2, Value.int i2_37)]) hx hb d_Mo_chosen_139 hl (k := 0) rfl (rfl) (by decide) rfl (fun ls hl => ?_)
          refine lv_goto (tgt := 113) hx hb d_Mo_chosen_142 (by decide) ?_
          exact hk39 _ _ _ _ hf (lv_sub hl [0, 1, 2] rfl) Y
        · replace hf := gp_f c134_42 hf
          refine lv_iload_n hx hb d_Mo_chosen_137 rfl (lv_at hl 0 rfl) ?_
          replace hf := gU hf ho39
          replace hf := gU hf ho37
          exact gy_iret hf hx hb hr hlocks hK Y (Nat.zero_le _) (Nat.zero_le _) d_Mo_chosen_138
  · replace hf := gp_t c2_35 hf
    refine lv_aload_n hx hb d_Mo_chosen_5 rfl (lv_at hl 0 rfl) ?_
    refine lv_aload_n hx hb d_Mo_chosen_6 rfl (lv_at hl 0 rfl) ?_
    refine gy_get (ci := 8) (v := Value.ref (b 54)) (C := "CommitLedgerModel") (T := F_Mo) (N := 35) hx hb hts i_Mo hown hK Y gF_46 rfl 15 (by decide) kf_Mo_40 rfl d_Mo_chosen_7 ?_
    refine gy_get (ci := 9) (v := Value.int (X0.I 54 7)) (C := "CommitLedgerModel$Version") (T := F_Ve) (N := 11) hx hb hts i_Ve hown hK Y gF_54 rfl 7 (by decide) kf_Mo_122 rfl d_Mo_chosen_10 ?_
    refine gy_put hf (ci := 8) (ty := .int) (C := "CommitLedgerModel") (T := F_Mo) (N := 35) hx hb hts i_Mo t_Mo_ok n_Mo hown hK Y gF_46 rfl (by decide) kf_Mo_208 rfl (by decide +kernel) rfl rfl (Nat.le_of_ble_eq_true rfl) gF_46 d_Mo_chosen_13 (fun X43 H locs hf Y => ?_)
    refine lv_iconst (v := 0) hx hb d_Mo_chosen_16 (by decide) ?_
    refine lv_istore_n (lv' := [(2, Value.int 0), (0, Value.ref (b 46)), (1, Value.int a1)]) hx hb d_Mo_chosen_17 rfl hl (by decide) rfl (fun ls hl => ?_)
    refine gy_iter (fun s : Int32 => X43) (fun (s : Int32) ls => lv_has ls 4 [(2, Value.int s), (0, Value.ref (b 46))]) ?_ gK 0 _ _ _ hf (lv_sub hl [0, 1] rfl) Y
    rintro i2_44 u44 H locs ls hf hl Y hk44 ho44
    have hl : lv_has ls 4 [(2, Value.int i2_44), (0, Value.ref (b 46))] := hl
    have Y : gy D t b A s.heap X0 X43 H locs := Y
    have hf : f_Mo_chosen_18 X43 i2_44 = some u44 := hf
    unfold f_Mo_chosen_18 at hf
    refine lv_iload_n hx hb d_Mo_chosen_18 rfl (lv_at hl 0 rfl) ?_
    refine lv_aload_n hx hb d_Mo_chosen_19 rfl (lv_at hl 1 rfl) ?_
    refine gy_get (ci := 8) (v := Value.ref (b 54)) (C := "CommitLedgerModel") (T := F_Mo) (N := 35) hx hb hts i_Mo hown hK Y gF_46 rfl 15 (by decide) kf_Mo_40 rfl d_Mo_chosen_20 ?_
    refine gy_get (ci := 9) (v := Value.int (X43.I 54 7)) (C := "CommitLedgerModel$Version") (T := F_Ve) (N := 11) hx hb hts i_Ve hown hK Y gF_54 rfl 7 (by decide) kf_Mo_122 rfl d_Mo_chosen_23 ?_
    refine lv_icmp_ge (tgt := 49) hx hb d_Mo_chosen_26 (by decide) (fun c26_45 => ?_) (fun c26_45 => ?_)
    · replace hf := gp_t c26_45 hf
      refine lv_aload_n hx hb d_Mo_chosen_49 rfl (lv_at hl 1 rfl) ?_
      refine gy_get (ci := 8) (v := Value.ref (b 54)) (C := "CommitLedgerModel") (T := F_Mo) (N := 35) hx hb hts i_Mo hown hK Y gF_46 rfl 15 (by decide) kf_Mo_40 rfl d_Mo_chosen_50 ?_
      refine gy_get (ci := 9) (v := Value.int (X43.I 54 7)) (C := "CommitLedgerModel$Version") (T := F_Ve) (N := 11) hx hb hts i_Ve hown hK Y gF_54 rfl 7 (by decide) kf_Mo_122 rfl d_Mo_chosen_53 ?_
      refine lv_iconst (v := 1) hx hb d_Mo_chosen_56 (by decide) ?_
      refine lv_icmp_gt (tgt := 89) hx hb d_Mo_chosen_57 (by decide) (fun c57_46 => ?_) (fun c57_46 => ?_)
      · replace hf := gp_t c57_46 hf
        replace hf := gU hf ho44
        exact J89 X43 _ _ _ hf (lv_sub hl [] rfl) Y
      · replace hf := gp_f c57_46 hf
        refine lv_aload_n hx hb d_Mo_chosen_60 rfl (lv_at hl 1 rfl) ?_
        refine gy_get (ci := 8) (v := Value.ref (b 54)) (C := "CommitLedgerModel") (T := F_Mo) (N := 35) hx hb hts i_Mo hown hK Y gF_46 rfl 15 (by decide) kf_Mo_40 rfl d_Mo_chosen_61 ?_
        refine gy_get (ci := 9) (v := Value.int (X43.I 54 7)) (C := "CommitLedgerModel$Version") (T := F_Ve) (N := 11) hx hb hts i_Ve hown hK Y gF_54 rfl 7 (by decide) kf_Mo_122 rfl d_Mo_chosen_64 ?_
        refine lv_iconst (v := 1) hx hb d_Mo_chosen_67 (by decide) ?_
        refine lv_icmp_ne (tgt := 93) hx hb d_Mo_chosen_68 (by decide) (fun c68_47 => ?_) (fun c68_47 => ?_)
        · replace hf := gp_f c68_47 hf
          replace hf := gU hf ho44
          exact J93 X43 _ _ _ hf (lv_sub hl [] rfl) Y
        · replace hf := gp_t c68_47 hf
          refine lv_aload_n hx hb d_Mo_chosen_71 rfl (lv_at hl 1 rfl) ?_
          refine gy_get (ci := 8) (v := Value.ref (b 54)) (C := "CommitLedgerModel") (T := F_Mo) (N := 35) hx hb hts i_Mo hown hK Y gF_46 rfl 15 (by decide) kf_Mo_40 rfl d_Mo_chosen_72 ?_
          refine lv_iconst (v := 0) hx hb d_Mo_chosen_75 (by decide) ?_
          obtain ⟨x48, X48, hF48, hf⟩ := gCi_el hf
          refine gy_callI (rm := { frames := 1, cells := 0, slots := 0, locals := 12 }) (ig := .invokevirtual 202) (av := [Value.ref (b 54), Value.int 0]) Y (fun ws h hS hw => K_Ve_liveIn l htr D tys z _ ws h hS t ht b X43 hw 54 (by decide) 0 (gR.i x48, X48) hF48) (gx_invV (As := [Value.int 0]) (rest := []) hx hb hown hts km_Mo_202 kI_Ve_liveIn kV_Ve_liveIn kc_Ve_liveIn (by decide) (show (parseMethodDescriptor y_Ve_liveIn.desc).map (fun d => d.parameters.length) = some 1 by decide +kernel) (gy_recv (ci := 9) hK Y rfl gF_54) rfl rfl d_Mo_chosen_76) (gx_cw (z := 0) hts kc_Ve_liveIn kN_Ve rfl rfl ⟨Nat.le_of_ble_eq_true rfl, Nat.le_of_ble_eq_true rfl⟩) hb hml hz hK hY hAz hA hl.1 (lv_room (Nat.le_of_ble_eq_true rfl)) d_Mo_chosen_76 ⟨Nat.zero_le _, Nat.zero_le _⟩ (fun H locs Y => ?_)
          refine lv_aload_n hx hb d_Mo_chosen_79 rfl (lv_at hl 1 rfl) ?_
          refine gy_get (ci := 8) (v := Value.ref (b 54)) (C := "CommitLedgerModel") (T := F_Mo) (N := 35) hx hb hts i_Mo hown hK Y gF_46 rfl 15 (by decide) kf_Mo_40 rfl d_Mo_chosen_80 ?_
          obtain ⟨x49, X49, hF49, hf⟩ := gCi_el hf
          refine gy_callI (rm := { frames := 1, cells := 0, slots := 0, locals := 12 }) (ig := .invokevirtual 200) (av := [Value.ref (b 54)]) Y (fun ws h hS hw => K_Ve_docs l htr D tys z _ ws h hS t ht b X48 hw 54 (by decide) (gR.i x49, X49) hF49) (gx_invV (As := []) (rest := [Value.int x48]) hx hb hown hts km_Mo_200 kI_Ve_docs kV_Ve_docs kc_Ve_docs (by decide) (show (parseMethodDescriptor y_Ve_docs.desc).map (fun d => d.parameters.length) = some 0 by decide +kernel) (gy_recv (ci := 9) hK Y rfl gF_54) rfl rfl d_Mo_chosen_83) (gx_cw (z := 0) hts kc_Ve_docs kN_Ve rfl rfl ⟨Nat.le_of_ble_eq_true rfl, Nat.le_of_ble_eq_true rfl⟩) hb hml hz hK hY hAz hA hl.1 (lv_room (Nat.le_of_ble_eq_true rfl)) d_Mo_chosen_83 ⟨Nat.zero_le _, Nat.zero_le _⟩ (fun H locs Y => ?_)
          refine lv_icmp_ge (tgt := 93) hx hb d_Mo_chosen_86 (by decide) (fun c86_50 => ?_) (fun c86_50 => ?_)
          · replace hf := gp_t c86_50 hf
            replace hf := gU hf ho44
            exact J93 X49 _ _ _ hf (lv_sub hl [] rfl) Y
          · replace hf := gp_f c86_50 hf
            replace hf := gU hf ho44
            exact J89 X49 _ _ _ hf (lv_sub hl [] rfl) Y
    · replace hf := gp_f c26_45 hf
      refine lv_aload_n hx hb d_Mo_chosen_29 rfl (lv_at hl 1 rfl) ?_
      refine gy_get (ci := 8) (v := Value.ref (b 54)) (C := "CommitLedgerModel") (T := F_Mo) (N := 35) hx hb hts i_Mo hown hK Y gF_46 rfl 15 (by decide) kf_Mo_40 rfl d_Mo_chosen_30 ?_
      refine gy_get (ci := 9) (v := Value.ref (b 58)) (C := "CommitLedgerModel$Version") (T := F_Ve) (N := 11) hx hb hts i_Ve hown hK Y gF_54 rfl 3 (by decide) kf_Mo_166 rfl d_Mo_chosen_33 ?_
      refine lv_iload_n hx hb d_Mo_chosen_36 rfl (lv_at hl 0 rfl) ?_
      refine gy_iald hf hx hb hK Y 0 (fun _ => gF_58) ht0 d_Mo_chosen_37 (fun _ hf => ?_)
      refine lv_if_eq (tgt := 43) hx hb d_Mo_chosen_38 (by decide) (fun c38_51 => ?_) (fun c38_51 => ?_)
      · replace hf := gp_t c38_51 hf
        refine lv_iinc (v := i2_44 + 1) (lv' := [(2, Value.int (i2_44 + 1)), (0, Value.ref (b 46))]) hx hb d_Mo_chosen_43 hl (k := 0) rfl (rfl) (by decide) rfl (fun ls hl => ?_)
        refine lv_goto (tgt := 18) hx hb d_Mo_chosen_46 (by decide) ?_
        exact hk44 _ _ _ _ hf (lv_sub hl [0, 1] rfl) Y
      · replace hf := gp_f c38_51 hf
        refine lv_iconst (v := (-1)) hx hb d_Mo_chosen_41 (by decide) ?_
        replace hf := gU hf ho44
        exact gy_iret hf hx hb hr hlocks hK Y (Nat.zero_le _) (Nat.zero_le _) d_Mo_chosen_42

def f_Mo_nothingNew_41 (X : gX) : Option (gR × gX) := some (gR.i 0, X)
def f_Mo_nothingNew_87 (X : gX) (i1 : Int32) : Option ((gX × Int32) ⊕ (gR × gX)) := gCi (f_Ve_docs X 54) (fun x7 X7 => (if x7 ≤ i1 then gLf (some (gR.i 1, X7)) else (if gIn i1 4096 then (if gIn i1 4096 then (if (X7.I 60 (gn i1)) = (X7.I 68 (gn i1)) then some (Sum.inl (X7, i1 + 1)) else gLf (some (gR.i 0, X7))) else none) else none)))
def f_Mo_nothingNew_45 (X : gX) (i1 : Int32) : Option ((Int32) ⊕ (gR × gX)) := (if (X.I 54 7) ≤ i1 then gLf (gI (fun s : gX × Int32 => f_Mo_nothingNew_87 s.1 s.2) gK (X, 0)) else (if gIn i1 4097 then (if gIn i1 4097 then (if (X.I 55 (gn i1)) = (X.I 63 (gn i1)) then some (Sum.inl (i1 + 1)) else gLf (some (gR.i 0, X))) else none) else none))
def f_Mo_nothingNew (X0 : gX) : Option (gR × gX) := (if (X0.I 46 20) = (0 : Int32) then f_Mo_nothingNew_41 X0 else (if (X0.I 54 7) = (X0.I 62 7) then (if (X0.I 54 8) = (X0.I 62 8) then gI (fun s : Int32 => f_Mo_nothingNew_45 X0 s) gK 0 else f_Mo_nothingNew_41 X0) else f_Mo_nothingNew_41 X0))
set_option maxHeartbeats 4000000 in
set_option maxRecDepth 100000 in
theorem K_Mo_nothingNew (l : Launch) (htr : l.stackTraces = false) (D : va_G) (tys : List (ClassId × FieldType)) (z sz : Nat) (ws : va_W) (h : gm_M) (hM : gm_S h ws) (t : Nat → ClassId) (ht : gTy t tys) (b : Nat → Nat) (X0 : gX) (hw : gw D t b X0 h) (o : gR × gX) (hf : f_Mo_nothingNew X0 = some o) : gx_Met l y_Mo_nothingNew [Cond.code y_Mo_nothingNew b_Mo_nothingNew 2 (some .boolean)] { frames := 2, cells := 0, slots := 0, locals := 32 } (gx_P z sz D classes tys ws [Value.ref (b 46)]) (gx_Q D classes tys (va_A ws sz) (gPo D t b X0 o)) (0) (0) (va_A ws sz) := by
  refine gx_ofW (cc := b_Mo_nothingNew) (maxL := 2) (ret := (some .boolean)) (by decide) rfl ?_
  intro p e s m args below meth c s₁ B hml hv
  obtain ⟨rfl, hsz, hz, hP, hK, hD0, hY⟩ := hv
  have hx := B.exec
  have hb := B.bytes
  have hr := B.returns
  have hts := hY.hts (#[Value.ref (b 46)] : Array Value)
  have hown : s.vm.findClass "CommitLedgerModel" = some m.cls := findClass_of_methodNamed B.named
  have hlocks := B.notSynchronized
  subst hsz
  have hAz := gx_az hD0 hz
  have hD := hD0.self (sz := s.heap.size)
  have hA : ∀ q : Nat, s.heap.size ≤ q → va_A ws s.heap.size q := fun q h => Or.inr h
  generalize va_A ws s.heap.size = A at hD hA hAz ⊢
  have Y : gy D t b A s.heap X0 X0 s.heap [] := ⟨h, ⟨ws, hM, hP, hD, va_S.rf⟩, hw, gEq.rf⟩
  clear hP hD hM hD0 hw
  obtain ⟨ht0, ht1, ht2, ht3, ht4, ht5, ht6, ht7, ht8⟩ := id ht
  have hl := lv_entry ([Value.ref (b 46)]) (n := 2) (Nat.le_of_ble_eq_true rfl)
  rw [lg_entry_eq]
  generalize (lg_sl ([Value.ref (b 46)]) ++ List.replicate (2 - (lg_sl ([Value.ref (b 46)])).length) Slot.unset).toArray = ls at hl ⊢
  have hl : lv_has ls 2 [(0, Value.ref (b 46))] := hl
  refine gy_cut (pcJ := 41) Y (fun s : gX => f_Mo_nothingNew_41 s) o (fun s => s) (fun s ls => lv_has ls 2 []) (fun s => []) ?_ (fun J41 => ?_)
  · rintro X20 H locs ls hf hl Y
    have hl : lv_has ls 2 [] := hl
    have Y : gy D t b A s.heap X0 X20 H locs := Y
    have hf : f_Mo_nothingNew_41 X20 = some o := hf
    unfold f_Mo_nothingNew_41 at hf
    refine lv_iconst (v := 0) hx hb d_Mo_nothingNew_41 (by decide) ?_
    exact gy_zret hf hx hb hr hlocks hK Y (Nat.zero_le _) (Nat.zero_le _) rfl d_Mo_nothingNew_42
  unfold f_Mo_nothingNew at hf
  refine lv_aload_n hx hb d_Mo_nothingNew_0 rfl (lv_at hl 0 rfl) ?_
  refine gy_get (ci := 8) (v := Value.int (X0.I 46 20)) (C := "CommitLedgerModel") (T := F_Mo) (N := 35) hx hb hts i_Mo hown hK Y gF_46 rfl 20 (by decide) kf_Mo_135 rfl d_Mo_nothingNew_1 ?_
  refine lv_if_eq (tgt := 41) hx hb d_Mo_nothingNew_4 (by decide) (fun c4_21 => ?_) (fun c4_21 => ?_)
  · replace hf := gp_t c4_21 hf
    exact J41 X0 _ _ _ hf (lv_sub hl [] rfl) Y
  · replace hf := gp_f c4_21 hf
    refine lv_aload_n hx hb d_Mo_nothingNew_7 rfl (lv_at hl 0 rfl) ?_
    refine gy_get (ci := 8) (v := Value.ref (b 54)) (C := "CommitLedgerModel") (T := F_Mo) (N := 35) hx hb hts i_Mo hown hK Y gF_46 rfl 15 (by decide) kf_Mo_40 rfl d_Mo_nothingNew_8 ?_
    refine gy_get (ci := 9) (v := Value.int (X0.I 54 7)) (C := "CommitLedgerModel$Version") (T := F_Ve) (N := 11) hx hb hts i_Ve hown hK Y gF_54 rfl 7 (by decide) kf_Mo_122 rfl d_Mo_nothingNew_11 ?_
    refine lv_aload_n hx hb d_Mo_nothingNew_14 rfl (lv_at hl 0 rfl) ?_
    refine gy_get (ci := 8) (v := Value.ref (b 62)) (C := "CommitLedgerModel") (T := F_Mo) (N := 35) hx hb hts i_Mo hown hK Y gF_46 rfl 16 (by decide) kf_Mo_44 rfl d_Mo_nothingNew_15 ?_
    refine gy_get (ci := 9) (v := Value.int (X0.I 62 7)) (C := "CommitLedgerModel$Version") (T := F_Ve) (N := 11) hx hb hts i_Ve hown hK Y gF_62 rfl 7 (by decide) kf_Mo_122 rfl d_Mo_nothingNew_18 ?_
    refine lv_icmp_ne (tgt := 41) hx hb d_Mo_nothingNew_21 (by decide) (fun c21_22 => ?_) (fun c21_22 => ?_)
    · replace hf := gp_f c21_22 hf
      exact J41 X0 _ _ _ hf (lv_sub hl [] rfl) Y
    · replace hf := gp_t c21_22 hf
      refine lv_aload_n hx hb d_Mo_nothingNew_24 rfl (lv_at hl 0 rfl) ?_
      refine gy_get (ci := 8) (v := Value.ref (b 54)) (C := "CommitLedgerModel") (T := F_Mo) (N := 35) hx hb hts i_Mo hown hK Y gF_46 rfl 15 (by decide) kf_Mo_40 rfl d_Mo_nothingNew_25 ?_
      refine gy_get (ci := 9) (v := Value.int (X0.I 54 8)) (C := "CommitLedgerModel$Version") (T := F_Ve) (N := 11) hx hb hts i_Ve hown hK Y gF_54 rfl 8 (by decide) kf_Mo_159 rfl d_Mo_nothingNew_28 ?_
      refine lv_aload_n hx hb d_Mo_nothingNew_31 rfl (lv_at hl 0 rfl) ?_
      refine gy_get (ci := 8) (v := Value.ref (b 62)) (C := "CommitLedgerModel") (T := F_Mo) (N := 35) hx hb hts i_Mo hown hK Y gF_46 rfl 16 (by decide) kf_Mo_44 rfl d_Mo_nothingNew_32 ?_
      refine gy_get (ci := 9) (v := Value.int (X0.I 62 8)) (C := "CommitLedgerModel$Version") (T := F_Ve) (N := 11) hx hb hts i_Ve hown hK Y gF_62 rfl 8 (by decide) kf_Mo_159 rfl d_Mo_nothingNew_35 ?_
      refine lv_icmp_eq (tgt := 43) hx hb d_Mo_nothingNew_38 (by decide) (fun c38_23 => ?_) (fun c38_23 => ?_)
      · replace hf := gp_t c38_23 hf
        refine lv_iconst (v := 0) hx hb d_Mo_nothingNew_43 (by decide) ?_
        refine lv_istore_n (lv' := [(1, Value.int 0), (0, Value.ref (b 46))]) hx hb d_Mo_nothingNew_44 rfl hl (by decide) rfl (fun ls hl => ?_)
        refine gy_iter (fun s : Int32 => X0) (fun (s : Int32) ls => lv_has ls 2 [(1, Value.int s), (0, Value.ref (b 46))]) ?_ gK 0 _ _ _ hf (lv_sub hl [0, 1] rfl) Y
        rintro i1_24 u24 H locs ls hf hl Y hk24 ho24
        have hl : lv_has ls 2 [(1, Value.int i1_24), (0, Value.ref (b 46))] := hl
        have Y : gy D t b A s.heap X0 X0 H locs := Y
        have hf : f_Mo_nothingNew_45 X0 i1_24 = some u24 := hf
        unfold f_Mo_nothingNew_45 at hf
        refine lv_iload_n hx hb d_Mo_nothingNew_45 rfl (lv_at hl 0 rfl) ?_
        refine lv_aload_n hx hb d_Mo_nothingNew_46 rfl (lv_at hl 1 rfl) ?_
        refine gy_get (ci := 8) (v := Value.ref (b 54)) (C := "CommitLedgerModel") (T := F_Mo) (N := 35) hx hb hts i_Mo hown hK Y gF_46 rfl 15 (by decide) kf_Mo_40 rfl d_Mo_nothingNew_47 ?_
        refine gy_get (ci := 9) (v := Value.int (X0.I 54 7)) (C := "CommitLedgerModel$Version") (T := F_Ve) (N := 11) hx hb hts i_Ve hown hK Y gF_54 rfl 7 (by decide) kf_Mo_122 rfl d_Mo_nothingNew_50 ?_
        refine lv_icmp_ge (tgt := 85) hx hb d_Mo_nothingNew_53 (by decide) (fun c53_25 => ?_) (fun c53_25 => ?_)
        · replace hf := gp_t c53_25 hf
          refine lv_iconst (v := 0) hx hb d_Mo_nothingNew_85 (by decide) ?_
          refine lv_istore_n (lv' := [(1, Value.int 0), (0, Value.ref (b 46))]) hx hb d_Mo_nothingNew_86 rfl hl (by decide) rfl (fun ls hl => ?_)
          replace hf := gU hf ho24
          refine gy_iter (fun s : gX × Int32 => s.1) (fun (s : gX × Int32) ls => lv_has ls 2 [(1, Value.int s.2), (0, Value.ref (b 46))]) ?_ gK (X0, 0) _ _ _ hf (lv_sub hl [0, 1] rfl) Y
          rintro ⟨X26, i1_26⟩ u26 H locs ls hf hl Y hk26 ho26
          have hl : lv_has ls 2 [(1, Value.int i1_26), (0, Value.ref (b 46))] := hl
          have Y : gy D t b A s.heap X0 X26 H locs := Y
          have hf : f_Mo_nothingNew_87 X26 i1_26 = some u26 := hf
          unfold f_Mo_nothingNew_87 at hf
          refine lv_iload_n hx hb d_Mo_nothingNew_87 rfl (lv_at hl 0 rfl) ?_
          refine lv_aload_n hx hb d_Mo_nothingNew_88 rfl (lv_at hl 1 rfl) ?_
          refine gy_get (ci := 8) (v := Value.ref (b 54)) (C := "CommitLedgerModel") (T := F_Mo) (N := 35) hx hb hts i_Mo hown hK Y gF_46 rfl 15 (by decide) kf_Mo_40 rfl d_Mo_nothingNew_89 ?_
          obtain ⟨x27, X27, hF27, hf⟩ := gCi_el hf
          refine gy_callI (rm := { frames := 1, cells := 0, slots := 0, locals := 12 }) (ig := .invokevirtual 200) (av := [Value.ref (b 54)]) Y (fun ws h hS hw => K_Ve_docs l htr D tys z _ ws h hS t ht b X26 hw 54 (by decide) (gR.i x27, X27) hF27) (gx_invV (As := []) (rest := [Value.int i1_26]) hx hb hown hts km_Mo_200 kI_Ve_docs kV_Ve_docs kc_Ve_docs (by decide) (show (parseMethodDescriptor y_Ve_docs.desc).map (fun d => d.parameters.length) = some 0 by decide +kernel) (gy_recv (ci := 9) hK Y rfl gF_54) rfl rfl d_Mo_nothingNew_92) (gx_cw (z := 0) hts kc_Ve_docs kN_Ve rfl rfl ⟨Nat.le_of_ble_eq_true rfl, Nat.le_of_ble_eq_true rfl⟩) hb hml hz hK hY hAz hA hl.1 (lv_room (Nat.le_of_ble_eq_true rfl)) d_Mo_nothingNew_92 ⟨Nat.zero_le _, Nat.zero_le _⟩ (fun H locs Y => ?_)
          refine lv_icmp_ge (tgt := 127) hx hb d_Mo_nothingNew_95 (by decide) (fun c95_28 => ?_) (fun c95_28 => ?_)
          · replace hf := gp_t c95_28 hf
            refine lv_iconst (v := 1) hx hb d_Mo_nothingNew_127 (by decide) ?_
            replace hf := gU hf ho26
            exact gy_zret hf hx hb hr hlocks hK Y (Nat.zero_le _) (Nat.zero_le _) rfl d_Mo_nothingNew_128
          · replace hf := gp_f c95_28 hf
            refine lv_aload_n hx hb d_Mo_nothingNew_98 rfl (lv_at hl 1 rfl) ?_
            refine gy_get (ci := 8) (v := Value.ref (b 54)) (C := "CommitLedgerModel") (T := F_Mo) (N := 35) hx hb hts i_Mo hown hK Y gF_46 rfl 15 (by decide) kf_Mo_40 rfl d_Mo_nothingNew_99 ?_
            refine gy_get (ci := 9) (v := Value.ref (b 60)) (C := "CommitLedgerModel$Version") (T := F_Ve) (N := 11) hx hb hts i_Ve hown hK Y gF_54 rfl 5 (by decide) kf_Mo_188 rfl d_Mo_nothingNew_102 ?_
            refine lv_iload_n hx hb d_Mo_nothingNew_105 rfl (lv_at hl 0 rfl) ?_
            refine gy_zald hf hx hb hK Y 1 (fun _ => gF_60) ht1 d_Mo_nothingNew_106 (fun _ hf => ?_)
            refine lv_aload_n hx hb d_Mo_nothingNew_107 rfl (lv_at hl 1 rfl) ?_
            refine gy_get (ci := 8) (v := Value.ref (b 62)) (C := "CommitLedgerModel") (T := F_Mo) (N := 35) hx hb hts i_Mo hown hK Y gF_46 rfl 16 (by decide) kf_Mo_44 rfl d_Mo_nothingNew_108 ?_
            refine gy_get (ci := 9) (v := Value.ref (b 68)) (C := "CommitLedgerModel$Version") (T := F_Ve) (N := 11) hx hb hts i_Ve hown hK Y gF_62 rfl 5 (by decide) kf_Mo_188 rfl d_Mo_nothingNew_111 ?_
            refine lv_iload_n hx hb d_Mo_nothingNew_114 rfl (lv_at hl 0 rfl) ?_
            refine gy_zald hf hx hb hK Y 1 (fun _ => gF_68) ht1 d_Mo_nothingNew_115 (fun _ hf => ?_)
            refine lv_icmp_eq (tgt := 121) hx hb d_Mo_nothingNew_116 (by decide) (fun c116_29 => ?_) (fun c116_29 => ?_)
            · replace hf := gp_t c116_29 hf
              refine lv_iinc (v := i1_26 + 1) (lv' := [(1, Value.int (i1_26 + 1)), (0, Value.ref (b 46))]) hx hb d_Mo_nothingNew_121 hl (k := 0) rfl (rfl) (by decide) rfl (fun ls hl => ?_)
              refine lv_goto (tgt := 87) hx hb d_Mo_nothingNew_124 (by decide) ?_
              exact hk26 _ _ _ _ hf (lv_sub hl [0, 1] rfl) Y
            · replace hf := gp_f c116_29 hf
              refine lv_iconst (v := 0) hx hb d_Mo_nothingNew_119 (by decide) ?_
              replace hf := gU hf ho26
              exact gy_zret hf hx hb hr hlocks hK Y (Nat.zero_le _) (Nat.zero_le _) rfl d_Mo_nothingNew_120
        · replace hf := gp_f c53_25 hf
          refine lv_aload_n hx hb d_Mo_nothingNew_56 rfl (lv_at hl 1 rfl) ?_
          refine gy_get (ci := 8) (v := Value.ref (b 54)) (C := "CommitLedgerModel") (T := F_Mo) (N := 35) hx hb hts i_Mo hown hK Y gF_46 rfl 15 (by decide) kf_Mo_40 rfl d_Mo_nothingNew_57 ?_
          refine gy_get (ci := 9) (v := Value.ref (b 55)) (C := "CommitLedgerModel$Version") (T := F_Ve) (N := 11) hx hb hts i_Ve hown hK Y gF_54 rfl 0 (by decide) kf_Mo_125 rfl d_Mo_nothingNew_60 ?_
          refine lv_iload_n hx hb d_Mo_nothingNew_63 rfl (lv_at hl 0 rfl) ?_
          refine gy_iald hf hx hb hK Y 0 (fun _ => gF_55) ht0 d_Mo_nothingNew_64 (fun _ hf => ?_)
          refine lv_aload_n hx hb d_Mo_nothingNew_65 rfl (lv_at hl 1 rfl) ?_
          refine gy_get (ci := 8) (v := Value.ref (b 62)) (C := "CommitLedgerModel") (T := F_Mo) (N := 35) hx hb hts i_Mo hown hK Y gF_46 rfl 16 (by decide) kf_Mo_44 rfl d_Mo_nothingNew_66 ?_
          refine gy_get (ci := 9) (v := Value.ref (b 63)) (C := "CommitLedgerModel$Version") (T := F_Ve) (N := 11) hx hb hts i_Ve hown hK Y gF_62 rfl 0 (by decide) kf_Mo_125 rfl d_Mo_nothingNew_69 ?_
          refine lv_iload_n hx hb d_Mo_nothingNew_72 rfl (lv_at hl 0 rfl) ?_
          refine gy_iald hf hx hb hK Y 0 (fun _ => gF_63) ht0 d_Mo_nothingNew_73 (fun _ hf => ?_)
          refine lv_icmp_eq (tgt := 79) hx hb d_Mo_nothingNew_74 (by decide) (fun c74_30 => ?_) (fun c74_30 => ?_)
          · replace hf := gp_t c74_30 hf
            refine lv_iinc (v := i1_24 + 1) (lv' := [(1, Value.int (i1_24 + 1)), (0, Value.ref (b 46))]) hx hb d_Mo_nothingNew_79 hl (k := 0) rfl (rfl) (by decide) rfl (fun ls hl => ?_)
            refine lv_goto (tgt := 45) hx hb d_Mo_nothingNew_82 (by decide) ?_
            exact hk24 _ _ _ _ hf (lv_sub hl [0, 1] rfl) Y
          · replace hf := gp_f c74_30 hf
            refine lv_iconst (v := 0) hx hb d_Mo_nothingNew_77 (by decide) ?_
            replace hf := gU hf ho24
            exact gy_zret hf hx hb hr hlocks hK Y (Nat.zero_le _) (Nat.zero_le _) rfl d_Mo_nothingNew_78
      · replace hf := gp_f c38_23 hf
        exact J41 X0 _ _ _ hf (lv_sub hl [] rfl) Y

def f_Mo_writeLists_150 (X : gX) (i1 : Int32) : Option ((gX × Int32) ⊕ (gR × gX)) := some (Sum.inl (X, i1 + 1))
def f_Mo_writeLists_108 (X : gX) (i1 : Int32) (i4 : Int32) : Option ((gX × Int32) ⊕ ((gX × Int32) ⊕ (gR × gX))) := (if gIn (i1 + 1) 4098 then (if (X.I 57 (gn (i1 + 1))) ≤ i4 then gLf (f_Mo_writeLists_150 X i1) else (if gIn i4 4096 then (if gIn i4 4096 then gB (X.w 61 (gn i4) (vp_nar .boolean (X.I 60 (gn i4)))) (fun X11 => some (Sum.inl (X11, i4 + 1))) else none) else none)) else none)
def f_Mo_writeLists_63 (X : gX) (i1 : Int32) (i2 : Int32) (i3 : Int32) : Option ((Int32 × Int32) ⊕ ((gX × Int32) ⊕ (gR × gX))) := some (Sum.inl (i2, i3 + 1))
def f_Mo_writeLists_25 (X : gX) (i1 : Int32) (i2 : Int32) (i3 : Int32) : Option ((Int32 × Int32) ⊕ ((gX × Int32) ⊕ (gR × gX))) := (if gIn (i1 + 1) 4098 then (if (X.I 57 (gn (i1 + 1))) ≤ i3 then (if i2 = (0 : Int32) then gLf (f_Mo_writeLists_150 X i1) else gCi (f_Mo_write X) (fun x6 X6 => (if (0 : Int32) ≤ x6 then (if gIn i1 4097 then gB (X6.w 56 (gn i1) x6) (fun X8 => (if gIn i1 4098 then gLf (gI (fun s : gX × Int32 => f_Mo_writeLists_108 s.1 i1 s.2) gK (X8, X8.I 57 (gn i1))) else none)) else none) else gLf (gLf (some (gR.i 0, X6)))))) else (if gIn i3 4096 then (if gIn i3 4096 then (if (X.I 60 (gn i3)) = (X.I 61 (gn i3)) then f_Mo_writeLists_63 X i1 i2 i3 else f_Mo_writeLists_63 X i1 1 i3) else none) else none)) else none)
def f_Mo_writeLists_2 (X : gX) (i1 : Int32) : Option ((gX × Int32) ⊕ (gR × gX)) := (if (X.I 54 7) ≤ i1 then gLf (some (gR.i 1, X)) else (if gIn i1 4098 then gI (fun s : Int32 × Int32 => f_Mo_writeLists_25 X i1 s.1 s.2) gK (0, X.I 57 (gn i1)) else none))
def f_Mo_writeLists (X0 : gX) : Option (gR × gX) := gI (fun s : gX × Int32 => f_Mo_writeLists_2 s.1 s.2) gK (X0, 0)
set_option maxHeartbeats 4000000 in
set_option maxRecDepth 100000 in
theorem K_Mo_writeLists (l : Launch) (htr : l.stackTraces = false) (D : va_G) (tys : List (ClassId × FieldType)) (z sz : Nat) (ws : va_W) (h : gm_M) (hM : gm_S h ws) (t : Nat → ClassId) (ht : gTy t tys) (b : Nat → Nat) (X0 : gX) (hw : gw D t b X0 h) (o : gR × gX) (hf : f_Mo_writeLists X0 = some o) : gx_Met l y_Mo_writeLists [Cond.code y_Mo_writeLists b_Mo_writeLists 5 (some .boolean)] { frames := 5, cells := 0, slots := 0, locals := 98 } (gx_P z sz D classes tys ws [Value.ref (b 46)]) (gx_Q D classes tys (va_A ws sz) (gPo D t b X0 o)) (0) (0) (va_A ws sz) := by
  refine gx_ofW (cc := b_Mo_writeLists) (maxL := 5) (ret := (some .boolean)) (by decide) rfl ?_
  intro p e s m args below meth c s₁ B hml hv
  obtain ⟨rfl, hsz, hz, hP, hK, hD0, hY⟩ := hv
  have hx := B.exec
  have hb := B.bytes
  have hr := B.returns
  have hts := hY.hts (#[Value.ref (b 46)] : Array Value)
  have hown : s.vm.findClass "CommitLedgerModel" = some m.cls := findClass_of_methodNamed B.named
  have hlocks := B.notSynchronized
  subst hsz
  have hAz := gx_az hD0 hz
  have hD := hD0.self (sz := s.heap.size)
  have hA : ∀ q : Nat, s.heap.size ≤ q → va_A ws s.heap.size q := fun q h => Or.inr h
  generalize va_A ws s.heap.size = A at hD hA hAz ⊢
  have Y : gy D t b A s.heap X0 X0 s.heap [] := ⟨h, ⟨ws, hM, hP, hD, va_S.rf⟩, hw, gEq.rf⟩
  clear hP hD hM hD0 hw
  obtain ⟨ht0, ht1, ht2, ht3, ht4, ht5, ht6, ht7, ht8⟩ := id ht
  have hl := lv_entry ([Value.ref (b 46)]) (n := 5) (Nat.le_of_ble_eq_true rfl)
  rw [lg_entry_eq]
  generalize (lg_sl ([Value.ref (b 46)]) ++ List.replicate (5 - (lg_sl ([Value.ref (b 46)])).length) Slot.unset).toArray = ls at hl ⊢
  have hl : lv_has ls 5 [(0, Value.ref (b 46))] := hl
  unfold f_Mo_writeLists at hf
  refine lv_iconst (v := 0) hx hb d_Mo_writeLists_0 (by decide) ?_
  refine lv_istore_n (lv' := [(1, Value.int 0), (0, Value.ref (b 46))]) hx hb d_Mo_writeLists_1 rfl hl (by decide) rfl (fun ls hl => ?_)
  refine gy_iter (fun s : gX × Int32 => s.1) (fun (s : gX × Int32) ls => lv_has ls 5 [(1, Value.int s.2), (0, Value.ref (b 46))]) ?_ gK (X0, 0) _ _ _ hf (lv_sub hl [0, 1] rfl) Y
  rintro ⟨X38, i1_38⟩ u38 H locs ls hf hl Y hk38 ho38
  have hl : lv_has ls 5 [(1, Value.int i1_38), (0, Value.ref (b 46))] := hl
  have Y : gy D t b A s.heap X0 X38 H locs := Y
  have hf : f_Mo_writeLists_2 X38 i1_38 = some u38 := hf
  refine gy_cut (pcJ := 150) Y (fun s : gX × Int32 => f_Mo_writeLists_150 s.1 s.2) u38 (fun s => s.1) (fun s ls => lv_has ls 5 [(1, Value.int s.2), (0, Value.ref (b 46))]) (fun s => []) ?_ (fun J150 => ?_)
  · rintro ⟨X39, i1_39⟩ H locs ls hf hl Y
    have hl : lv_has ls 5 [(1, Value.int i1_39), (0, Value.ref (b 46))] := hl
    have Y : gy D t b A s.heap X0 X39 H locs := Y
    have hf : f_Mo_writeLists_150 X39 i1_39 = some u38 := hf
    unfold f_Mo_writeLists_150 at hf
    refine lv_iinc (v := i1_39 + 1) (lv' := [(1, Value.int (i1_39 + 1)), (0, Value.ref (b 46))]) hx hb d_Mo_writeLists_150 hl (k := 0) rfl (rfl) (by decide) rfl (fun ls hl => ?_)
    refine lv_goto (tgt := 2) hx hb d_Mo_writeLists_153 (by decide) ?_
    exact hk38 _ _ _ _ hf (lv_sub hl [0, 1] rfl) Y
  unfold f_Mo_writeLists_2 at hf
  refine lv_iload_n hx hb d_Mo_writeLists_2 rfl (lv_at hl 0 rfl) ?_
  refine lv_aload_n hx hb d_Mo_writeLists_3 rfl (lv_at hl 1 rfl) ?_
  refine gy_get (ci := 8) (v := Value.ref (b 54)) (C := "CommitLedgerModel") (T := F_Mo) (N := 35) hx hb hts i_Mo hown hK Y gF_46 rfl 15 (by decide) kf_Mo_40 rfl d_Mo_writeLists_4 ?_
  refine gy_get (ci := 9) (v := Value.int (X38.I 54 7)) (C := "CommitLedgerModel$Version") (T := F_Ve) (N := 11) hx hb hts i_Ve hown hK Y gF_54 rfl 7 (by decide) kf_Mo_122 rfl d_Mo_writeLists_7 ?_
  refine lv_icmp_ge (tgt := 156) hx hb d_Mo_writeLists_10 (by decide) (fun c10_40 => ?_) (fun c10_40 => ?_)
  · replace hf := gp_t c10_40 hf
    refine lv_iconst (v := 1) hx hb d_Mo_writeLists_156 (by decide) ?_
    replace hf := gU hf ho38
    exact gy_zret hf hx hb hr hlocks hK Y (Nat.zero_le _) (Nat.zero_le _) rfl d_Mo_writeLists_157
  · replace hf := gp_f c10_40 hf
    refine lv_iconst (v := 0) hx hb d_Mo_writeLists_13 (by decide) ?_
    refine lv_istore_n (lv' := [(2, Value.int 0), (1, Value.int i1_38), (0, Value.ref (b 46))]) hx hb d_Mo_writeLists_14 rfl hl (by decide) rfl (fun ls hl => ?_)
    refine lv_aload_n hx hb d_Mo_writeLists_15 rfl (lv_at hl 2 rfl) ?_
    refine gy_get (ci := 8) (v := Value.ref (b 54)) (C := "CommitLedgerModel") (T := F_Mo) (N := 35) hx hb hts i_Mo hown hK Y gF_46 rfl 15 (by decide) kf_Mo_40 rfl d_Mo_writeLists_16 ?_
    refine gy_get (ci := 9) (v := Value.ref (b 57)) (C := "CommitLedgerModel$Version") (T := F_Ve) (N := 11) hx hb hts i_Ve hown hK Y gF_54 rfl 2 (by decide) kf_Mo_182 rfl d_Mo_writeLists_19 ?_
    refine lv_iload_n hx hb d_Mo_writeLists_22 rfl (lv_at hl 1 rfl) ?_
    refine gy_iald hf hx hb hK Y 0 (fun _ => gF_57) ht0 d_Mo_writeLists_23 (fun _ hf => ?_)
    refine lv_istore_n (lv' := [(3, Value.int (X38.I 57 (gn i1_38))), (2, Value.int 0), (1, Value.int i1_38), (0, Value.ref (b 46))]) hx hb d_Mo_writeLists_24 rfl hl (by decide) rfl (fun ls hl => ?_)
    refine gy_iter (fun s : Int32 × Int32 => X38) (fun (s : Int32 × Int32) ls => lv_has ls 5 [(2, Value.int s.1), (3, Value.int s.2), (0, Value.ref (b 46)), (1, Value.int i1_38)]) ?_ gK (0, X38.I 57 (gn i1_38)) _ _ _ hf (lv_sub hl [1, 0, 3, 2] rfl) Y
    rintro ⟨i2_41, i3_41⟩ u41 H locs ls hf hl Y hk41 ho41
    have hl : lv_has ls 5 [(2, Value.int i2_41), (3, Value.int i3_41), (0, Value.ref (b 46)), (1, Value.int i1_38)] := hl
    have Y : gy D t b A s.heap X0 X38 H locs := Y
    have hf : f_Mo_writeLists_25 X38 i1_38 i2_41 i3_41 = some u41 := hf
    refine gy_cut (pcJ := 63) Y (fun s : Int32 × Int32 => f_Mo_writeLists_63 X38 i1_38 s.1 s.2) u41 (fun s => X38) (fun s ls => lv_has ls 5 [(2, Value.int s.1), (3, Value.int s.2), (0, Value.ref (b 46)), (1, Value.int i1_38)]) (fun s => []) ?_ (fun J63 => ?_)
    · rintro ⟨i2_42, i3_42⟩ H locs ls hf hl Y
      have hl : lv_has ls 5 [(2, Value.int i2_42), (3, Value.int i3_42), (0, Value.ref (b 46)), (1, Value.int i1_38)] := hl
      have Y : gy D t b A s.heap X0 X38 H locs := Y
      have hf : f_Mo_writeLists_63 X38 i1_38 i2_42 i3_42 = some u41 := hf
      unfold f_Mo_writeLists_63 at hf
      refine lv_iinc (v := i3_42 + 1) (lv' := [(3, Value.int (i3_42 + 1)), (2, Value.int i2_42), (0, Value.ref (b 46)), (1, Value.int i1_38)]) hx hb d_Mo_writeLists_63 hl (k := 1) rfl (rfl) (by decide) rfl (fun ls hl => ?_)
      refine lv_goto (tgt := 25) hx hb d_Mo_writeLists_66 (by decide) ?_
      exact hk41 _ _ _ _ hf (lv_sub hl [1, 0, 2, 3] rfl) Y
    unfold f_Mo_writeLists_25 at hf
    refine lv_iload_n hx hb d_Mo_writeLists_25 rfl (lv_at hl 1 rfl) ?_
    refine lv_aload_n hx hb d_Mo_writeLists_26 rfl (lv_at hl 2 rfl) ?_
    refine gy_get (ci := 8) (v := Value.ref (b 54)) (C := "CommitLedgerModel") (T := F_Mo) (N := 35) hx hb hts i_Mo hown hK Y gF_46 rfl 15 (by decide) kf_Mo_40 rfl d_Mo_writeLists_27 ?_
    refine gy_get (ci := 9) (v := Value.ref (b 57)) (C := "CommitLedgerModel$Version") (T := F_Ve) (N := 11) hx hb hts i_Ve hown hK Y gF_54 rfl 2 (by decide) kf_Mo_182 rfl d_Mo_writeLists_30 ?_
    refine lv_iload_n hx hb d_Mo_writeLists_33 rfl (lv_at hl 3 rfl) ?_
    refine lv_iconst (v := 1) hx hb d_Mo_writeLists_34 (by decide) ?_
    refine lv_iadd hx hb d_Mo_writeLists_35 ?_
    refine gy_iald hf hx hb hK Y 0 (fun _ => gF_57) ht0 d_Mo_writeLists_36 (fun _ hf => ?_)
    refine lv_icmp_ge (tgt := 69) hx hb d_Mo_writeLists_37 (by decide) (fun c37_43 => ?_) (fun c37_43 => ?_)
    · replace hf := gp_t c37_43 hf
      refine lv_iload_n hx hb d_Mo_writeLists_69 rfl (lv_at hl 0 rfl) ?_
      refine lv_if_ne (tgt := 76) hx hb d_Mo_writeLists_70 (by decide) (fun c70_44 => ?_) (fun c70_44 => ?_)
      · replace hf := gp_f c70_44 hf
        refine lv_aload_n hx hb d_Mo_writeLists_76 rfl (lv_at hl 2 rfl) ?_
        obtain ⟨x45, X45, hF45, hf⟩ := gCi_el hf
        refine gy_callI (rm := { frames := 4, cells := 0, slots := 0, locals := 78 }) (ig := .invokevirtual 178) (av := [Value.ref (b 46)]) Y (fun ws h hS hw => K_Mo_write l htr D tys z _ ws h hS t ht b X38 hw (gR.i x45, X45) hF45) (gx_invV (As := []) (rest := []) hx hb hown hts km_Mo_178 kI_Mo_write kV_Mo_write kc_Mo_write (by decide) (show (parseMethodDescriptor y_Mo_write.desc).map (fun d => d.parameters.length) = some 0 by decide +kernel) (gy_recv (ci := 8) hK Y rfl gF_46) rfl rfl d_Mo_writeLists_77) (gx_cw (z := 0) hts kc_Mo_write kN_Mo rfl rfl ⟨Nat.le_of_ble_eq_true rfl, Nat.le_of_ble_eq_true rfl⟩) hb hml hz hK hY hAz hA hl.1 (lv_room (Nat.le_of_ble_eq_true rfl)) d_Mo_writeLists_77 ⟨Nat.zero_le _, Nat.zero_le _⟩ (fun H locs Y => ?_)
        refine lv_istore_n (lv' := [(3, Value.int x45), (2, Value.int i2_41), (0, Value.ref (b 46)), (1, Value.int i1_38)]) hx hb d_Mo_writeLists_80 rfl hl (by decide) rfl (fun ls hl => ?_)
        refine lv_iload_n hx hb d_Mo_writeLists_81 rfl (lv_at hl 0 rfl) ?_
        refine lv_if_ge (tgt := 87) hx hb d_Mo_writeLists_82 (by decide) (fun c82_46 => ?_) (fun c82_46 => ?_)
        · replace hf := gp_t c82_46 hf
          refine lv_aload_n hx hb d_Mo_writeLists_87 rfl (lv_at hl 2 rfl) ?_
          refine gy_get (ci := 8) (v := Value.ref (b 54)) (C := "CommitLedgerModel") (T := F_Mo) (N := 35) hx hb hts i_Mo hown hK Y gF_46 rfl 15 (by decide) kf_Mo_40 rfl d_Mo_writeLists_88 ?_
          refine gy_get (ci := 9) (v := Value.ref (b 56)) (C := "CommitLedgerModel$Version") (T := F_Ve) (N := 11) hx hb hts i_Ve hown hK Y gF_54 rfl 1 (by decide) kf_Mo_132 rfl d_Mo_writeLists_91 ?_
          refine lv_iload_n hx hb d_Mo_writeLists_94 rfl (lv_at hl 3 rfl) ?_
          refine lv_iload_n hx hb d_Mo_writeLists_95 rfl (lv_at hl 0 rfl) ?_
          refine gy_iast hf hx hb hK Y 0 (fun _ => gF_56) ht0 d_Mo_writeLists_96 (fun X47 H locs hf Y => ?_)
          refine lv_aload_n hx hb d_Mo_writeLists_97 rfl (lv_at hl 2 rfl) ?_
          refine gy_get (ci := 8) (v := Value.ref (b 54)) (C := "CommitLedgerModel") (T := F_Mo) (N := 35) hx hb hts i_Mo hown hK Y gF_46 rfl 15 (by decide) kf_Mo_40 rfl d_Mo_writeLists_98 ?_
          refine gy_get (ci := 9) (v := Value.ref (b 57)) (C := "CommitLedgerModel$Version") (T := F_Ve) (N := 11) hx hb hts i_Ve hown hK Y gF_54 rfl 2 (by decide) kf_Mo_182 rfl d_Mo_writeLists_101 ?_
          refine lv_iload_n hx hb d_Mo_writeLists_104 rfl (lv_at hl 3 rfl) ?_
          refine gy_iald hf hx hb hK Y 0 (fun _ => gF_57) ht0 d_Mo_writeLists_105 (fun _ hf => ?_)
          refine lv_istore (lv' := [(4, Value.int (X47.I 57 (gn i1_38))), (3, Value.int x45), (2, Value.int i2_41), (0, Value.ref (b 46)), (1, Value.int i1_38)]) hx hb d_Mo_writeLists_106 hl (by decide) rfl (fun ls hl => ?_)
          replace hf := gU hf ho41
          refine gy_iter (fun s : gX × Int32 => s.1) (fun (s : gX × Int32) ls => lv_has ls 5 [(4, Value.int s.2), (0, Value.ref (b 46)), (1, Value.int i1_38)]) ?_ gK (X47, X47.I 57 (gn i1_38)) _ _ _ hf (lv_sub hl [0, 3, 4] rfl) Y
          rintro ⟨X48, i4_48⟩ u48 H locs ls hf hl Y hk48 ho48
          have hl : lv_has ls 5 [(4, Value.int i4_48), (0, Value.ref (b 46)), (1, Value.int i1_38)] := hl
          have Y : gy D t b A s.heap X0 X48 H locs := Y
          have hf : f_Mo_writeLists_108 X48 i1_38 i4_48 = some u48 := hf
          unfold f_Mo_writeLists_108 at hf
          refine lv_iload hx hb d_Mo_writeLists_108 (lv_at hl 0 rfl) ?_
          refine lv_aload_n hx hb d_Mo_writeLists_110 rfl (lv_at hl 1 rfl) ?_
          refine gy_get (ci := 8) (v := Value.ref (b 54)) (C := "CommitLedgerModel") (T := F_Mo) (N := 35) hx hb hts i_Mo hown hK Y gF_46 rfl 15 (by decide) kf_Mo_40 rfl d_Mo_writeLists_111 ?_
          refine gy_get (ci := 9) (v := Value.ref (b 57)) (C := "CommitLedgerModel$Version") (T := F_Ve) (N := 11) hx hb hts i_Ve hown hK Y gF_54 rfl 2 (by decide) kf_Mo_182 rfl d_Mo_writeLists_114 ?_
          refine lv_iload_n hx hb d_Mo_writeLists_117 rfl (lv_at hl 2 rfl) ?_
          refine lv_iconst (v := 1) hx hb d_Mo_writeLists_118 (by decide) ?_
          refine lv_iadd hx hb d_Mo_writeLists_119 ?_
          refine gy_iald hf hx hb hK Y 0 (fun _ => gF_57) ht0 d_Mo_writeLists_120 (fun _ hf => ?_)
          refine lv_icmp_ge (tgt := 150) hx hb d_Mo_writeLists_121 (by decide) (fun c121_49 => ?_) (fun c121_49 => ?_)
          · replace hf := gp_t c121_49 hf
            replace hf := gU hf ho48
            exact J150 (X48, i1_38) _ _ _ hf (lv_sub hl [2, 1] rfl) Y
          · replace hf := gp_f c121_49 hf
            refine lv_aload_n hx hb d_Mo_writeLists_124 rfl (lv_at hl 1 rfl) ?_
            refine gy_get (ci := 8) (v := Value.ref (b 54)) (C := "CommitLedgerModel") (T := F_Mo) (N := 35) hx hb hts i_Mo hown hK Y gF_46 rfl 15 (by decide) kf_Mo_40 rfl d_Mo_writeLists_125 ?_
            refine gy_get (ci := 9) (v := Value.ref (b 61)) (C := "CommitLedgerModel$Version") (T := F_Ve) (N := 11) hx hb hts i_Ve hown hK Y gF_54 rfl 6 (by decide) kf_Mo_191 rfl d_Mo_writeLists_128 ?_
            refine lv_iload hx hb d_Mo_writeLists_131 (lv_at hl 0 rfl) ?_
            refine lv_aload_n hx hb d_Mo_writeLists_133 rfl (lv_at hl 1 rfl) ?_
            refine gy_get (ci := 8) (v := Value.ref (b 54)) (C := "CommitLedgerModel") (T := F_Mo) (N := 35) hx hb hts i_Mo hown hK Y gF_46 rfl 15 (by decide) kf_Mo_40 rfl d_Mo_writeLists_134 ?_
            refine gy_get (ci := 9) (v := Value.ref (b 60)) (C := "CommitLedgerModel$Version") (T := F_Ve) (N := 11) hx hb hts i_Ve hown hK Y gF_54 rfl 5 (by decide) kf_Mo_188 rfl d_Mo_writeLists_137 ?_
            refine lv_iload hx hb d_Mo_writeLists_140 (lv_at hl 0 rfl) ?_
            refine gy_zald hf hx hb hK Y 1 (fun _ => gF_60) ht1 d_Mo_writeLists_142 (fun _ hf => ?_)
            refine gy_zast hf hx hb hK Y 1 (fun _ => gF_61) ht1 d_Mo_writeLists_143 (fun X50 H locs hf Y => ?_)
            refine lv_iinc (v := i4_48 + 1) (lv' := [(4, Value.int (i4_48 + 1)), (0, Value.ref (b 46)), (1, Value.int i1_38)]) hx hb d_Mo_writeLists_144 hl (k := 0) rfl (rfl) (by decide) rfl (fun ls hl => ?_)
            refine lv_goto (tgt := 108) hx hb d_Mo_writeLists_147 (by decide) ?_
            exact hk48 _ _ _ _ hf (lv_sub hl [0, 1, 2] rfl) Y
        · replace hf := gp_f c82_46 hf
          refine lv_iconst (v := 0) hx hb d_Mo_writeLists_85 (by decide) ?_
          replace hf := gU hf ho41
          replace hf := gU hf ho38
          exact gy_zret hf hx hb hr hlocks hK Y (Nat.zero_le _) (Nat.zero_le _) rfl d_Mo_writeLists_86
      · replace hf := gp_t c70_44 hf
        refine lv_goto (tgt := 150) hx hb d_Mo_writeLists_73 (by decide) ?_
        replace hf := gU hf ho41
        exact J150 (X38, i1_38) _ _ _ hf (lv_sub hl [3, 2] rfl) Y
    · replace hf := gp_f c37_43 hf
      refine lv_aload_n hx hb d_Mo_writeLists_40 rfl (lv_at hl 2 rfl) ?_
      refine gy_get (ci := 8) (v := Value.ref (b 54)) (C := "CommitLedgerModel") (T := F_Mo) (N := 35) hx hb hts i_Mo hown hK Y gF_46 rfl 15 (by decide) kf_Mo_40 rfl d_Mo_writeLists_41 ?_
      refine gy_get (ci := 9) (v := Value.ref (b 60)) (C := "CommitLedgerModel$Version") (T := F_Ve) (N := 11) hx hb hts i_Ve hown hK Y gF_54 rfl 5 (by decide) kf_Mo_188 rfl d_Mo_writeLists_44 ?_
      refine lv_iload_n hx hb d_Mo_writeLists_47 rfl (lv_at hl 1 rfl) ?_
      refine gy_zald hf hx hb hK Y 1 (fun _ => gF_60) ht1 d_Mo_writeLists_48 (fun _ hf => ?_)
      refine lv_aload_n hx hb d_Mo_writeLists_49 rfl (lv_at hl 2 rfl) ?_
      refine gy_get (ci := 8) (v := Value.ref (b 54)) (C := "CommitLedgerModel") (T := F_Mo) (N := 35) hx hb hts i_Mo hown hK Y gF_46 rfl 15 (by decide) kf_Mo_40 rfl d_Mo_writeLists_50 ?_
      refine gy_get (ci := 9) (v := Value.ref (b 61)) (C := "CommitLedgerModel$Version") (T := F_Ve) (N := 11) hx hb hts i_Ve hown hK Y gF_54 rfl 6 (by decide) kf_Mo_191 rfl d_Mo_writeLists_53 ?_
      refine lv_iload_n hx hb d_Mo_writeLists_56 rfl (lv_at hl 1 rfl) ?_
      refine gy_zald hf hx hb hK Y 1 (fun _ => gF_61) ht1 d_Mo_writeLists_57 (fun _ hf => ?_)
      refine lv_icmp_eq (tgt := 63) hx hb d_Mo_writeLists_58 (by decide) (fun c58_51 => ?_) (fun c58_51 => ?_)
      · replace hf := gp_t c58_51 hf
        exact J63 (i2_41, i3_41) _ _ _ hf (lv_sub hl [0, 1, 2, 3] rfl) Y
      · replace hf := gp_f c58_51 hf
        refine lv_iconst (v := 1) hx hb d_Mo_writeLists_61 (by decide) ?_
        refine lv_istore_n (lv' := [(2, Value.int 1), (3, Value.int i3_41), (0, Value.ref (b 46)), (1, Value.int i1_38)]) hx hb d_Mo_writeLists_62 rfl hl (by decide) rfl (fun ls hl => ?_)
        exact J63 (1, i3_41) _ _ _ hf (lv_sub hl [0, 1, 2, 3] rfl) Y

def f_Mo_preparing_111 (X : gX) : Option (gR × gX) := some (gR.i 0, X)
def f_Mo_preparing_88 (X : gX) (i1 : Int32) : Option ((gX × Int32) ⊕ (gR × gX)) := some (Sum.inl (X, i1 + 1))
def f_Mo_preparing_29 (X : gX) (i1 : Int32) : Option ((gX × Int32) ⊕ (gR × gX)) := (if (X.I 54 7) ≤ i1 then gCi (f_Mo_write X) (fun x9 X9 => (if x9 < (0 : Int32) then gLf (f_Mo_preparing_111 X9) else gCi (f_Mo_sync X9 x9) (fun x11 X11 => (if x11 = (0 : Int32) then gLf (f_Mo_preparing_111 X11) else gCv (f_Ve_copy X11 70 54) (fun X13 => gB (X13.w 70 9 x9) (fun X14 => gB (X14.w 46 19 1) (fun X15 => gLf (some (gR.i ((X15.I 46 20) + 1), X15))))))))) else (if gIn i1 4097 then gCi (f_Mo_sync X (X.I 55 (gn i1))) (fun x16 X16 => (if x16 = (0 : Int32) then gLf (some (gR.i 0, X16)) else (if gIn i1 4097 then (if (X16.I 56 (gn i1)) < (0 : Int32) then f_Mo_preparing_88 X16 i1 else (if gIn i1 4097 then gCi (f_Mo_sync X16 (X16.I 56 (gn i1))) (fun x19 X19 => (if x19 = (0 : Int32) then gLf (some (gR.i 0, X19)) else f_Mo_preparing_88 X19 i1)) else none)) else none))) else none))
def f_Mo_preparing (X0 : gX) : Option (gR × gX) := gCi (f_Mo_flushing X0) (fun x1 X1 => (if x1 = (0 : Int32) then some (gR.i 0, X1) else gCi (f_Mo_nothingNew X1) (fun x3 X3 => (if x3 = (0 : Int32) then gCi (f_Mo_writeLists X3) (fun x5 X5 => (if x5 = (0 : Int32) then some (gR.i 0, X5) else gI (fun s : gX × Int32 => f_Mo_preparing_29 s.1 s.2) gK (X5, 0))) else some (gR.i 0, X3)))))
set_option maxHeartbeats 4000000 in
set_option maxRecDepth 100000 in
theorem K_Mo_preparing (l : Launch) (htr : l.stackTraces = false) (D : va_G) (tys : List (ClassId × FieldType)) (z sz : Nat) (ws : va_W) (h : gm_M) (hM : gm_S h ws) (t : Nat → ClassId) (ht : gTy t tys) (b : Nat → Nat) (X0 : gX) (hw : gw D t b X0 h) (o : gR × gX) (hf : f_Mo_preparing X0 = some o) : gx_Met l y_Mo_preparing [Cond.code y_Mo_preparing b_Mo_preparing 2 (some .int)] { frames := 6, cells := 0, slots := 0, locals := 123 } (gx_P z sz D classes tys ws [Value.ref (b 46)]) (gx_Q D classes tys (va_A ws sz) (gPo D t b X0 o)) (0) (0) (va_A ws sz) := by
  refine gx_ofW (cc := b_Mo_preparing) (maxL := 2) (ret := (some .int)) (by decide) rfl ?_
  intro p e s m args below meth c s₁ B hml hv
  obtain ⟨rfl, hsz, hz, hP, hK, hD0, hY⟩ := hv
  have hx := B.exec
  have hb := B.bytes
  have hr := B.returns
  have hts := hY.hts (#[Value.ref (b 46)] : Array Value)
  have hown : s.vm.findClass "CommitLedgerModel" = some m.cls := findClass_of_methodNamed B.named
  have hlocks := B.notSynchronized
  subst hsz
  have hAz := gx_az hD0 hz
  have hD := hD0.self (sz := s.heap.size)
  have hA : ∀ q : Nat, s.heap.size ≤ q → va_A ws s.heap.size q := fun q h => Or.inr h
  generalize va_A ws s.heap.size = A at hD hA hAz ⊢
  have Y : gy D t b A s.heap X0 X0 s.heap [] := ⟨h, ⟨ws, hM, hP, hD, va_S.rf⟩, hw, gEq.rf⟩
  clear hP hD hM hD0 hw
  obtain ⟨ht0, ht1, ht2, ht3, ht4, ht5, ht6, ht7, ht8⟩ := id ht
  have hl := lv_entry ([Value.ref (b 46)]) (n := 2) (Nat.le_of_ble_eq_true rfl)
  rw [lg_entry_eq]
  generalize (lg_sl ([Value.ref (b 46)]) ++ List.replicate (2 - (lg_sl ([Value.ref (b 46)])).length) Slot.unset).toArray = ls at hl ⊢
  have hl : lv_has ls 2 [(0, Value.ref (b 46))] := hl
  refine gy_cut (pcJ := 111) Y (fun s : gX => f_Mo_preparing_111 s) o (fun s => s) (fun s ls => lv_has ls 2 []) (fun s => []) ?_ (fun J111 => ?_)
  · rintro X35 H locs ls hf hl Y
    have hl : lv_has ls 2 [] := hl
    have Y : gy D t b A s.heap X0 X35 H locs := Y
    have hf : f_Mo_preparing_111 X35 = some o := hf
    unfold f_Mo_preparing_111 at hf
    refine lv_iconst (v := 0) hx hb d_Mo_preparing_111 (by decide) ?_
    exact gy_iret hf hx hb hr hlocks hK Y (Nat.zero_le _) (Nat.zero_le _) d_Mo_preparing_112
  unfold f_Mo_preparing at hf
  refine lv_aload_n hx hb d_Mo_preparing_0 rfl (lv_at hl 0 rfl) ?_
  obtain ⟨x36, X36, hF36, hf⟩ := gCi_el hf
  refine gy_callI (rm := { frames := 5, cells := 0, slots := 0, locals := 98 }) (ig := .invokevirtual 197) (av := [Value.ref (b 46)]) Y (fun ws h hS hw => K_Mo_flushing l htr D tys z _ ws h hS t ht b X0 hw (gR.i x36, X36) hF36) (gx_invV (As := []) (rest := []) hx hb hown hts km_Mo_197 kI_Mo_flushing kV_Mo_flushing kc_Mo_flushing (by decide) (show (parseMethodDescriptor y_Mo_flushing.desc).map (fun d => d.parameters.length) = some 0 by decide +kernel) (gy_recv (ci := 8) hK Y rfl gF_46) rfl rfl d_Mo_preparing_1) (gx_cw (z := 0) hts kc_Mo_flushing kN_Mo rfl rfl ⟨Nat.le_of_ble_eq_true rfl, Nat.le_of_ble_eq_true rfl⟩) hb hml hz hK hY hAz hA hl.1 (lv_room (Nat.le_of_ble_eq_true rfl)) d_Mo_preparing_1 ⟨Nat.zero_le _, Nat.zero_le _⟩ (fun H locs Y => ?_)
  refine lv_if_ne (tgt := 9) hx hb d_Mo_preparing_4 (by decide) (fun c4_37 => ?_) (fun c4_37 => ?_)
  · replace hf := gp_f c4_37 hf
    refine lv_aload_n hx hb d_Mo_preparing_9 rfl (lv_at hl 0 rfl) ?_
    obtain ⟨x38, X38, hF38, hf⟩ := gCi_el hf
    refine gy_callI (rm := { frames := 2, cells := 0, slots := 0, locals := 32 }) (ig := .invokevirtual 229) (av := [Value.ref (b 46)]) Y (fun ws h hS hw => K_Mo_nothingNew l htr D tys z _ ws h hS t ht b X36 hw (gR.i x38, X38) hF38) (gx_invV (As := []) (rest := []) hx hb hown hts km_Mo_229 kI_Mo_nothingNew kV_Mo_nothingNew kc_Mo_nothingNew (by decide) (show (parseMethodDescriptor y_Mo_nothingNew.desc).map (fun d => d.parameters.length) = some 0 by decide +kernel) (gy_recv (ci := 8) hK Y rfl gF_46) rfl rfl d_Mo_preparing_10) (gx_cw (z := 0) hts kc_Mo_nothingNew kN_Mo rfl rfl ⟨Nat.le_of_ble_eq_true rfl, Nat.le_of_ble_eq_true rfl⟩) hb hml hz hK hY hAz hA hl.1 (lv_room (Nat.le_of_ble_eq_true rfl)) d_Mo_preparing_10 ⟨Nat.zero_le _, Nat.zero_le _⟩ (fun H locs Y => ?_)
    refine lv_if_eq (tgt := 18) hx hb d_Mo_preparing_13 (by decide) (fun c13_39 => ?_) (fun c13_39 => ?_)
    · replace hf := gp_t c13_39 hf
      refine lv_aload_n hx hb d_Mo_preparing_18 rfl (lv_at hl 0 rfl) ?_
      obtain ⟨x40, X40, hF40, hf⟩ := gCi_el hf
      refine gy_callI (rm := { frames := 5, cells := 0, slots := 0, locals := 98 }) (ig := .invokevirtual 232) (av := [Value.ref (b 46)]) Y (fun ws h hS hw => K_Mo_writeLists l htr D tys z _ ws h hS t ht b X38 hw (gR.i x40, X40) hF40) (gx_invV (As := []) (rest := []) hx hb hown hts km_Mo_232 kI_Mo_writeLists kV_Mo_writeLists kc_Mo_writeLists (by decide) (show (parseMethodDescriptor y_Mo_writeLists.desc).map (fun d => d.parameters.length) = some 0 by decide +kernel) (gy_recv (ci := 8) hK Y rfl gF_46) rfl rfl d_Mo_preparing_19) (gx_cw (z := 0) hts kc_Mo_writeLists kN_Mo rfl rfl ⟨Nat.le_of_ble_eq_true rfl, Nat.le_of_ble_eq_true rfl⟩) hb hml hz hK hY hAz hA hl.1 (lv_room (Nat.le_of_ble_eq_true rfl)) d_Mo_preparing_19 ⟨Nat.zero_le _, Nat.zero_le _⟩ (fun H locs Y => ?_)
      refine lv_if_ne (tgt := 27) hx hb d_Mo_preparing_22 (by decide) (fun c22_41 => ?_) (fun c22_41 => ?_)
      · replace hf := gp_f c22_41 hf
        refine lv_iconst (v := 0) hx hb d_Mo_preparing_27 (by decide) ?_
        refine lv_istore_n (lv' := [(1, Value.int 0), (0, Value.ref (b 46))]) hx hb d_Mo_preparing_28 rfl hl (by decide) rfl (fun ls hl => ?_)
        refine gy_iter (fun s : gX × Int32 => s.1) (fun (s : gX × Int32) ls => lv_has ls 2 [(1, Value.int s.2), (0, Value.ref (b 46))]) ?_ gK (X40, 0) _ _ _ hf (lv_sub hl [0, 1] rfl) Y
        rintro ⟨X42, i1_42⟩ u42 H locs ls hf hl Y hk42 ho42
        have hl : lv_has ls 2 [(1, Value.int i1_42), (0, Value.ref (b 46))] := hl
        have Y : gy D t b A s.heap X0 X42 H locs := Y
        have hf : f_Mo_preparing_29 X42 i1_42 = some u42 := hf
        refine gy_cut (pcJ := 88) Y (fun s : gX × Int32 => f_Mo_preparing_88 s.1 s.2) u42 (fun s => s.1) (fun s ls => lv_has ls 2 [(1, Value.int s.2), (0, Value.ref (b 46))]) (fun s => []) ?_ (fun J88 => ?_)
        · rintro ⟨X43, i1_43⟩ H locs ls hf hl Y
          have hl : lv_has ls 2 [(1, Value.int i1_43), (0, Value.ref (b 46))] := hl
          have Y : gy D t b A s.heap X0 X43 H locs := Y
          have hf : f_Mo_preparing_88 X43 i1_43 = some u42 := hf
          unfold f_Mo_preparing_88 at hf
          refine lv_iinc (v := i1_43 + 1) (lv' := [(1, Value.int (i1_43 + 1)), (0, Value.ref (b 46))]) hx hb d_Mo_preparing_88 hl (k := 0) rfl (rfl) (by decide) rfl (fun ls hl => ?_)
          refine lv_goto (tgt := 29) hx hb d_Mo_preparing_91 (by decide) ?_
          exact hk42 _ _ _ _ hf (lv_sub hl [0, 1] rfl) Y
        unfold f_Mo_preparing_29 at hf
        refine lv_iload_n hx hb d_Mo_preparing_29 rfl (lv_at hl 0 rfl) ?_
        refine lv_aload_n hx hb d_Mo_preparing_30 rfl (lv_at hl 1 rfl) ?_
        refine gy_get (ci := 8) (v := Value.ref (b 54)) (C := "CommitLedgerModel") (T := F_Mo) (N := 35) hx hb hts i_Mo hown hK Y gF_46 rfl 15 (by decide) kf_Mo_40 rfl d_Mo_preparing_31 ?_
        refine gy_get (ci := 9) (v := Value.int (X42.I 54 7)) (C := "CommitLedgerModel$Version") (T := F_Ve) (N := 11) hx hb hts i_Ve hown hK Y gF_54 rfl 7 (by decide) kf_Mo_122 rfl d_Mo_preparing_34 ?_
        refine lv_icmp_ge (tgt := 94) hx hb d_Mo_preparing_37 (by decide) (fun c37_44 => ?_) (fun c37_44 => ?_)
        · replace hf := gp_t c37_44 hf
          refine lv_aload_n hx hb d_Mo_preparing_94 rfl (lv_at hl 1 rfl) ?_
          obtain ⟨x45, X45, hF45, hf⟩ := gCi_el hf
          refine gy_callI (rm := { frames := 4, cells := 0, slots := 0, locals := 78 }) (ig := .invokevirtual 178) (av := [Value.ref (b 46)]) Y (fun ws h hS hw => K_Mo_write l htr D tys z _ ws h hS t ht b X42 hw (gR.i x45, X45) hF45) (gx_invV (As := []) (rest := []) hx hb hown hts km_Mo_178 kI_Mo_write kV_Mo_write kc_Mo_write (by decide) (show (parseMethodDescriptor y_Mo_write.desc).map (fun d => d.parameters.length) = some 0 by decide +kernel) (gy_recv (ci := 8) hK Y rfl gF_46) rfl rfl d_Mo_preparing_95) (gx_cw (z := 0) hts kc_Mo_write kN_Mo rfl rfl ⟨Nat.le_of_ble_eq_true rfl, Nat.le_of_ble_eq_true rfl⟩) hb hml hz hK hY hAz hA hl.1 (lv_room (Nat.le_of_ble_eq_true rfl)) d_Mo_preparing_95 ⟨Nat.zero_le _, Nat.zero_le _⟩ (fun H locs Y => ?_)
          refine lv_istore_n (lv' := [(1, Value.int x45), (0, Value.ref (b 46))]) hx hb d_Mo_preparing_98 rfl hl (by decide) rfl (fun ls hl => ?_)
          refine lv_iload_n hx hb d_Mo_preparing_99 rfl (lv_at hl 0 rfl) ?_
          refine lv_if_lt (tgt := 111) hx hb d_Mo_preparing_100 (by decide) (fun c100_46 => ?_) (fun c100_46 => ?_)
          · replace hf := gp_t c100_46 hf
            replace hf := gU hf ho42
            exact J111 X45 _ _ _ hf (lv_sub hl [] rfl) Y
          · replace hf := gp_f c100_46 hf
            refine lv_aload_n hx hb d_Mo_preparing_103 rfl (lv_at hl 1 rfl) ?_
            refine lv_iload_n hx hb d_Mo_preparing_104 rfl (lv_at hl 0 rfl) ?_
            obtain ⟨x47, X47, hF47, hf⟩ := gCi_el hf
            refine gy_callI (rm := { frames := 4, cells := 0, slots := 0, locals := 78 }) (ig := .invokevirtual 235) (av := [Value.ref (b 46), Value.int x45]) Y (fun ws h hS hw => K_Mo_sync l htr D tys z _ ws h hS t ht b X45 hw x45 (gR.i x47, X47) hF47) (gx_invV (As := [Value.int x45]) (rest := []) hx hb hown hts km_Mo_235 kI_Mo_sync kV_Mo_sync kc_Mo_sync (by decide) (show (parseMethodDescriptor y_Mo_sync.desc).map (fun d => d.parameters.length) = some 1 by decide +kernel) (gy_recv (ci := 8) hK Y rfl gF_46) rfl rfl d_Mo_preparing_105) (gx_cw (z := 0) hts kc_Mo_sync kN_Mo rfl rfl ⟨Nat.le_of_ble_eq_true rfl, Nat.le_of_ble_eq_true rfl⟩) hb hml hz hK hY hAz hA hl.1 (lv_room (Nat.le_of_ble_eq_true rfl)) d_Mo_preparing_105 ⟨Nat.zero_le _, Nat.zero_le _⟩ (fun H locs Y => ?_)
            refine lv_if_ne (tgt := 113) hx hb d_Mo_preparing_108 (by decide) (fun c108_48 => ?_) (fun c108_48 => ?_)
            · replace hf := gp_f c108_48 hf
              refine lv_aload_n hx hb d_Mo_preparing_113 rfl (lv_at hl 1 rfl) ?_
              refine gy_get (ci := 8) (v := Value.ref (b 70)) (C := "CommitLedgerModel") (T := F_Mo) (N := 35) hx hb hts i_Mo hown hK Y gF_46 rfl 17 (by decide) kf_Mo_47 rfl d_Mo_preparing_114 ?_
              refine lv_aload_n hx hb d_Mo_preparing_117 rfl (lv_at hl 1 rfl) ?_
              refine gy_get (ci := 8) (v := Value.ref (b 54)) (C := "CommitLedgerModel") (T := F_Mo) (N := 35) hx hb hts i_Mo hown hK Y gF_46 rfl 15 (by decide) kf_Mo_40 rfl d_Mo_preparing_118 ?_
              obtain ⟨X49, hF49, hf⟩ := gCv_el hf
              refine gy_callV (rm := { frames := 2, cells := 0, slots := 0, locals := 32 }) (ig := .invokevirtual 162) (av := [Value.ref (b 70), Value.ref (b 54)]) Y (fun ws h hS hw => K_Ve_copy l htr D tys z _ ws h hS t ht b X47 hw 70 (by decide) 54 (by decide) (gR.v, X49) hF49) (gx_invV (As := [Value.ref (b 54)]) (rest := []) hx hb hown hts km_Mo_162 kI_Ve_copy kV_Ve_copy kc_Ve_copy (by decide) (show (parseMethodDescriptor y_Ve_copy.desc).map (fun d => d.parameters.length) = some 1 by decide +kernel) (gy_recv (ci := 9) hK Y rfl gF_70) rfl rfl d_Mo_preparing_121) (gx_cw (z := 0) hts kc_Ve_copy kN_Ve rfl rfl ⟨Nat.le_of_ble_eq_true rfl, Nat.le_of_ble_eq_true rfl⟩) hb hml hz hK hY hAz hA hl.1 (lv_room (Nat.le_of_ble_eq_true rfl)) d_Mo_preparing_121 ⟨Nat.zero_le _, Nat.zero_le _⟩ (fun H locs Y => ?_)
              refine lv_aload_n hx hb d_Mo_preparing_124 rfl (lv_at hl 1 rfl) ?_
              refine gy_get (ci := 8) (v := Value.ref (b 70)) (C := "CommitLedgerModel") (T := F_Mo) (N := 35) hx hb hts i_Mo hown hK Y gF_46 rfl 17 (by decide) kf_Mo_47 rfl d_Mo_preparing_125 ?_
              refine lv_iload_n hx hb d_Mo_preparing_128 rfl (lv_at hl 0 rfl) ?_
              refine gy_put hf (ci := 9) (ty := .int) (C := "CommitLedgerModel$Version") (T := F_Ve) (N := 11) hx hb hts i_Ve t_Ve_ok n_Ve hown hK Y gF_70 rfl (by decide) kf_Mo_142 rfl (by decide +kernel) rfl rfl (Nat.le_of_ble_eq_true rfl) gF_70 d_Mo_preparing_129 (fun X50 H locs hf Y => ?_)
              refine lv_aload_n hx hb d_Mo_preparing_132 rfl (lv_at hl 1 rfl) ?_
              refine lv_iconst (v := 1) hx hb d_Mo_preparing_133 (by decide) ?_
              refine gy_put hf (ci := 8) (ty := .boolean) (C := "CommitLedgerModel") (T := F_Mo) (N := 35) hx hb hts i_Mo t_Mo_ok n_Mo hown hK Y gF_46 rfl (by decide) kf_Mo_109 rfl (by decide +kernel) rfl rfl (Nat.le_of_ble_eq_true rfl) gF_46 d_Mo_preparing_134 (fun X51 H locs hf Y => ?_)
              refine lv_aload_n hx hb d_Mo_preparing_137 rfl (lv_at hl 1 rfl) ?_
              refine gy_get (ci := 8) (v := Value.int (X51.I 46 20)) (C := "CommitLedgerModel") (T := F_Mo) (N := 35) hx hb hts i_Mo hown hK Y gF_46 rfl 20 (by decide) kf_Mo_135 rfl d_Mo_preparing_138 ?_
              refine lv_iconst (v := 1) hx hb d_Mo_preparing_141 (by decide) ?_
              refine lv_iadd hx hb d_Mo_preparing_142 ?_
              replace hf := gU hf ho42
              exact gy_iret hf hx hb hr hlocks hK Y (Nat.zero_le _) (Nat.zero_le _) d_Mo_preparing_143
            · replace hf := gp_t c108_48 hf
              replace hf := gU hf ho42
              exact J111 X47 _ _ _ hf (lv_sub hl [] rfl) Y
        · replace hf := gp_f c37_44 hf
          refine lv_aload_n hx hb d_Mo_preparing_40 rfl (lv_at hl 1 rfl) ?_
          refine lv_aload_n hx hb d_Mo_preparing_41 rfl (lv_at hl 1 rfl) ?_
          refine gy_get (ci := 8) (v := Value.ref (b 54)) (C := "CommitLedgerModel") (T := F_Mo) (N := 35) hx hb hts i_Mo hown hK Y gF_46 rfl 15 (by decide) kf_Mo_40 rfl d_Mo_preparing_42 ?_
          refine gy_get (ci := 9) (v := Value.ref (b 55)) (C := "CommitLedgerModel$Version") (T := F_Ve) (N := 11) hx hb hts i_Ve hown hK Y gF_54 rfl 0 (by decide) kf_Mo_125 rfl d_Mo_preparing_45 ?_
          refine lv_iload_n hx hb d_Mo_preparing_48 rfl (lv_at hl 0 rfl) ?_
          refine gy_iald hf hx hb hK Y 0 (fun _ => gF_55) ht0 d_Mo_preparing_49 (fun _ hf => ?_)
          obtain ⟨x52, X52, hF52, hf⟩ := gCi_el hf
          refine gy_callI (rm := { frames := 4, cells := 0, slots := 0, locals := 78 }) (ig := .invokevirtual 235) (av := [Value.ref (b 46), Value.int (X42.I 55 (gn i1_42))]) Y (fun ws h hS hw => K_Mo_sync l htr D tys z _ ws h hS t ht b X42 hw (X42.I 55 (gn i1_42)) (gR.i x52, X52) hF52) (gx_invV (As := [Value.int (X42.I 55 (gn i1_42))]) (rest := []) hx hb hown hts km_Mo_235 kI_Mo_sync kV_Mo_sync kc_Mo_sync (by decide) (show (parseMethodDescriptor y_Mo_sync.desc).map (fun d => d.parameters.length) = some 1 by decide +kernel) (gy_recv (ci := 8) hK Y rfl gF_46) rfl rfl d_Mo_preparing_50) (gx_cw (z := 0) hts kc_Mo_sync kN_Mo rfl rfl ⟨Nat.le_of_ble_eq_true rfl, Nat.le_of_ble_eq_true rfl⟩) hb hml hz hK hY hAz hA hl.1 (lv_room (Nat.le_of_ble_eq_true rfl)) d_Mo_preparing_50 ⟨Nat.zero_le _, Nat.zero_le _⟩ (fun H locs Y => ?_)
          refine lv_if_ne (tgt := 58) hx hb d_Mo_preparing_53 (by decide) (fun c53_53 => ?_) (fun c53_53 => ?_)
          · replace hf := gp_f c53_53 hf
            refine lv_aload_n hx hb d_Mo_preparing_58 rfl (lv_at hl 1 rfl) ?_
            refine gy_get (ci := 8) (v := Value.ref (b 54)) (C := "CommitLedgerModel") (T := F_Mo) (N := 35) hx hb hts i_Mo hown hK Y gF_46 rfl 15 (by decide) kf_Mo_40 rfl d_Mo_preparing_59 ?_
            refine gy_get (ci := 9) (v := Value.ref (b 56)) (C := "CommitLedgerModel$Version") (T := F_Ve) (N := 11) hx hb hts i_Ve hown hK Y gF_54 rfl 1 (by decide) kf_Mo_132 rfl d_Mo_preparing_62 ?_
            refine lv_iload_n hx hb d_Mo_preparing_65 rfl (lv_at hl 0 rfl) ?_
            refine gy_iald hf hx hb hK Y 0 (fun _ => gF_56) ht0 d_Mo_preparing_66 (fun _ hf => ?_)
            refine lv_if_lt (tgt := 88) hx hb d_Mo_preparing_67 (by decide) (fun c67_54 => ?_) (fun c67_54 => ?_)
            · replace hf := gp_t c67_54 hf
              exact J88 (X52, i1_42) _ _ _ hf (lv_sub hl [0, 1] rfl) Y
            · replace hf := gp_f c67_54 hf
              refine lv_aload_n hx hb d_Mo_preparing_70 rfl (lv_at hl 1 rfl) ?_
              refine lv_aload_n hx hb d_Mo_preparing_71 rfl (lv_at hl 1 rfl) ?_
              refine gy_get (ci := 8) (v := Value.ref (b 54)) (C := "CommitLedgerModel") (T := F_Mo) (N := 35) hx hb hts i_Mo hown hK Y gF_46 rfl 15 (by decide) kf_Mo_40 rfl d_Mo_preparing_72 ?_
              refine gy_get (ci := 9) (v := Value.ref (b 56)) (C := "CommitLedgerModel$Version") (T := F_Ve) (N := 11) hx hb hts i_Ve hown hK Y gF_54 rfl 1 (by decide) kf_Mo_132 rfl d_Mo_preparing_75 ?_
              refine lv_iload_n hx hb d_Mo_preparing_78 rfl (lv_at hl 0 rfl) ?_
              refine gy_iald hf hx hb hK Y 0 (fun _ => gF_56) ht0 d_Mo_preparing_79 (fun _ hf => ?_)
              obtain ⟨x55, X55, hF55, hf⟩ := gCi_el hf
              refine gy_callI (rm := { frames := 4, cells := 0, slots := 0, locals := 78 }) (ig := .invokevirtual 235) (av := [Value.ref (b 46), Value.int (X52.I 56 (gn i1_42))]) Y (fun ws h hS hw => K_Mo_sync l htr D tys z _ ws h hS t ht b X52 hw (X52.I 56 (gn i1_42)) (gR.i x55, X55) hF55) (gx_invV (As := [Value.int (X52.I 56 (gn i1_42))]) (rest := []) hx hb hown hts km_Mo_235 kI_Mo_sync kV_Mo_sync kc_Mo_sync (by decide) (show (parseMethodDescriptor y_Mo_sync.desc).map (fun d => d.parameters.length) = some 1 by decide +kernel) (gy_recv (ci := 8) hK Y rfl gF_46) rfl rfl d_Mo_preparing_80) (gx_cw (z := 0) hts kc_Mo_sync kN_Mo rfl rfl ⟨Nat.le_of_ble_eq_true rfl, Nat.le_of_ble_eq_true rfl⟩) hb hml hz hK hY hAz hA hl.1 (lv_room (Nat.le_of_ble_eq_true rfl)) d_Mo_preparing_80 ⟨Nat.zero_le _, Nat.zero_le _⟩ (fun H locs Y => ?_)
              refine lv_if_ne (tgt := 88) hx hb d_Mo_preparing_83 (by decide) (fun c83_56 => ?_) (fun c83_56 => ?_)
              · replace hf := gp_f c83_56 hf
                exact J88 (X55, i1_42) _ _ _ hf (lv_sub hl [0, 1] rfl) Y
              · replace hf := gp_t c83_56 hf
                refine lv_iconst (v := 0) hx hb d_Mo_preparing_86 (by decide) ?_
                replace hf := gU hf ho42
                exact gy_iret hf hx hb hr hlocks hK Y (Nat.zero_le _) (Nat.zero_le _) d_Mo_preparing_87
          · replace hf := gp_t c53_53 hf
            refine lv_iconst (v := 0) hx hb d_Mo_preparing_56 (by decide) ?_
            replace hf := gU hf ho42
            exact gy_iret hf hx hb hr hlocks hK Y (Nat.zero_le _) (Nat.zero_le _) d_Mo_preparing_57
      · replace hf := gp_t c22_41 hf
        refine lv_iconst (v := 0) hx hb d_Mo_preparing_25 (by decide) ?_
        exact gy_iret hf hx hb hr hlocks hK Y (Nat.zero_le _) (Nat.zero_le _) d_Mo_preparing_26
    · replace hf := gp_f c13_39 hf
      refine lv_iconst (v := 0) hx hb d_Mo_preparing_16 (by decide) ?_
      exact gy_iret hf hx hb hr hlocks hK Y (Nat.zero_le _) (Nat.zero_le _) d_Mo_preparing_17
  · replace hf := gp_t c4_37 hf
    refine lv_iconst (v := 0) hx hb d_Mo_preparing_7 (by decide) ?_
    exact gy_iret hf hx hb hr hlocks hK Y (Nat.zero_le _) (Nat.zero_le _) d_Mo_preparing_8

def f_Mo_committing_23 (X : gX) : Option (gR × gX) := some (gR.i (X.I 46 20), X)
def f_Mo_committing_28 (X : gX) : Option (gR × gX) := gCi (f_Mo_act X) (fun x2 X2 => (if x2 = (0 : Int32) then some (gR.i 0, X2) else gCv (f_Ve_copy X2 62 70) (fun X4 => gB (X4.w 46 19 0) (fun X5 => gB (X5.w 46 20 ((X5.I 46 20) + 1)) (fun X6 => some (gR.i (X6.I 46 20), X6))))))
def f_Mo_committing (X0 : gX) : Option (gR × gX) := (if (X0.I 46 19) = (0 : Int32) then gCi (f_Mo_preparing X0) (fun x7 X7 => (if (X7.I 46 0) = (0 : Int32) then (if x7 = (0 : Int32) then f_Mo_committing_23 X7 else f_Mo_committing_28 X7) else f_Mo_committing_23 X7)) else f_Mo_committing_28 X0)
set_option maxHeartbeats 4000000 in
set_option maxRecDepth 100000 in
theorem K_Mo_committing (l : Launch) (htr : l.stackTraces = false) (D : va_G) (tys : List (ClassId × FieldType)) (z sz : Nat) (ws : va_W) (h : gm_M) (hM : gm_S h ws) (t : Nat → ClassId) (ht : gTy t tys) (b : Nat → Nat) (X0 : gX) (hw : gw D t b X0 h) (o : gR × gX) (hf : f_Mo_committing X0 = some o) : gx_Met l y_Mo_committing [Cond.code y_Mo_committing b_Mo_committing 2 (some .int)] { frames := 7, cells := 0, slots := 0, locals := 144 } (gx_P z sz D classes tys ws [Value.ref (b 46)]) (gx_Q D classes tys (va_A ws sz) (gPo D t b X0 o)) (0) (0) (va_A ws sz) := by
  refine gx_ofW (cc := b_Mo_committing) (maxL := 2) (ret := (some .int)) (by decide) rfl ?_
  intro p e s m args below meth c s₁ B hml hv
  obtain ⟨rfl, hsz, hz, hP, hK, hD0, hY⟩ := hv
  have hx := B.exec
  have hb := B.bytes
  have hr := B.returns
  have hts := hY.hts (#[Value.ref (b 46)] : Array Value)
  have hown : s.vm.findClass "CommitLedgerModel" = some m.cls := findClass_of_methodNamed B.named
  have hlocks := B.notSynchronized
  subst hsz
  have hAz := gx_az hD0 hz
  have hD := hD0.self (sz := s.heap.size)
  have hA : ∀ q : Nat, s.heap.size ≤ q → va_A ws s.heap.size q := fun q h => Or.inr h
  generalize va_A ws s.heap.size = A at hD hA hAz ⊢
  have Y : gy D t b A s.heap X0 X0 s.heap [] := ⟨h, ⟨ws, hM, hP, hD, va_S.rf⟩, hw, gEq.rf⟩
  clear hP hD hM hD0 hw
  obtain ⟨ht0, ht1, ht2, ht3, ht4, ht5, ht6, ht7, ht8⟩ := id ht
  have hl := lv_entry ([Value.ref (b 46)]) (n := 2) (Nat.le_of_ble_eq_true rfl)
  rw [lg_entry_eq]
  generalize (lg_sl ([Value.ref (b 46)]) ++ List.replicate (2 - (lg_sl ([Value.ref (b 46)])).length) Slot.unset).toArray = ls at hl ⊢
  have hl : lv_has ls 2 [(0, Value.ref (b 46))] := hl
  refine gy_cut (pcJ := 28) Y (fun s : gX => f_Mo_committing_28 s) o (fun s => s) (fun s ls => lv_has ls 2 [(0, Value.ref (b 46))]) (fun s => []) ?_ (fun J28 => ?_)
  · rintro X10 H locs ls hf hl Y
    have hl : lv_has ls 2 [(0, Value.ref (b 46))] := hl
    have Y : gy D t b A s.heap X0 X10 H locs := Y
    have hf : f_Mo_committing_28 X10 = some o := hf
    unfold f_Mo_committing_28 at hf
    refine lv_aload_n hx hb d_Mo_committing_28 rfl (lv_at hl 0 rfl) ?_
    obtain ⟨x11, X11, hF11, hf⟩ := gCi_el hf
    refine gy_callI (rm := { frames := 3, cells := 0, slots := 0, locals := 58 }) (ig := .invokevirtual 115) (av := [Value.ref (b 46)]) Y (fun ws h hS hw => K_Mo_act l htr D tys z _ ws h hS t ht b X10 hw (gR.i x11, X11) hF11) (gx_invV (As := []) (rest := []) hx hb hown hts km_Mo_115 kI_Mo_act kV_Mo_act kc_Mo_act (by decide) (show (parseMethodDescriptor y_Mo_act.desc).map (fun d => d.parameters.length) = some 0 by decide +kernel) (gy_recv (ci := 8) hK Y rfl gF_46) rfl rfl d_Mo_committing_29) (gx_cw (z := 0) hts kc_Mo_act kN_Mo rfl rfl ⟨Nat.le_of_ble_eq_true rfl, Nat.le_of_ble_eq_true rfl⟩) hb hml hz hK hY hAz hA hl.1 (lv_room (Nat.le_of_ble_eq_true rfl)) d_Mo_committing_29 ⟨Nat.zero_le _, Nat.zero_le _⟩ (fun H locs Y => ?_)
    refine lv_if_ne (tgt := 37) hx hb d_Mo_committing_32 (by decide) (fun c32_12 => ?_) (fun c32_12 => ?_)
    · replace hf := gp_f c32_12 hf
      refine lv_aload_n hx hb d_Mo_committing_37 rfl (lv_at hl 0 rfl) ?_
      refine gy_get (ci := 8) (v := Value.ref (b 62)) (C := "CommitLedgerModel") (T := F_Mo) (N := 35) hx hb hts i_Mo hown hK Y gF_46 rfl 16 (by decide) kf_Mo_44 rfl d_Mo_committing_38 ?_
      refine lv_aload_n hx hb d_Mo_committing_41 rfl (lv_at hl 0 rfl) ?_
      refine gy_get (ci := 8) (v := Value.ref (b 70)) (C := "CommitLedgerModel") (T := F_Mo) (N := 35) hx hb hts i_Mo hown hK Y gF_46 rfl 17 (by decide) kf_Mo_47 rfl d_Mo_committing_42 ?_
      obtain ⟨X13, hF13, hf⟩ := gCv_el hf
      refine gy_callV (rm := { frames := 2, cells := 0, slots := 0, locals := 32 }) (ig := .invokevirtual 162) (av := [Value.ref (b 62), Value.ref (b 70)]) Y (fun ws h hS hw => K_Ve_copy l htr D tys z _ ws h hS t ht b X11 hw 62 (by decide) 70 (by decide) (gR.v, X13) hF13) (gx_invV (As := [Value.ref (b 70)]) (rest := []) hx hb hown hts km_Mo_162 kI_Ve_copy kV_Ve_copy kc_Ve_copy (by decide) (show (parseMethodDescriptor y_Ve_copy.desc).map (fun d => d.parameters.length) = some 1 by decide +kernel) (gy_recv (ci := 9) hK Y rfl gF_62) rfl rfl d_Mo_committing_45) (gx_cw (z := 0) hts kc_Ve_copy kN_Ve rfl rfl ⟨Nat.le_of_ble_eq_true rfl, Nat.le_of_ble_eq_true rfl⟩) hb hml hz hK hY hAz hA hl.1 (lv_room (Nat.le_of_ble_eq_true rfl)) d_Mo_committing_45 ⟨Nat.zero_le _, Nat.zero_le _⟩ (fun H locs Y => ?_)
      refine lv_aload_n hx hb d_Mo_committing_48 rfl (lv_at hl 0 rfl) ?_
      refine lv_iconst (v := 0) hx hb d_Mo_committing_49 (by decide) ?_
      refine gy_put hf (ci := 8) (ty := .boolean) (C := "CommitLedgerModel") (T := F_Mo) (N := 35) hx hb hts i_Mo t_Mo_ok n_Mo hown hK Y gF_46 rfl (by decide) kf_Mo_109 rfl (by decide +kernel) rfl rfl (Nat.le_of_ble_eq_true rfl) gF_46 d_Mo_committing_50 (fun X14 H locs hf Y => ?_)
      refine lv_aload_n hx hb d_Mo_committing_53 rfl (lv_at hl 0 rfl) ?_
      refine lv_dup hx hb d_Mo_committing_54 rfl ?_
      refine gy_get (ci := 8) (v := Value.int (X14.I 46 20)) (C := "CommitLedgerModel") (T := F_Mo) (N := 35) hx hb hts i_Mo hown hK Y gF_46 rfl 20 (by decide) kf_Mo_135 rfl d_Mo_committing_55 ?_
      refine lv_iconst (v := 1) hx hb d_Mo_committing_58 (by decide) ?_
      refine lv_iadd hx hb d_Mo_committing_59 ?_
      refine gy_put hf (ci := 8) (ty := .int) (C := "CommitLedgerModel") (T := F_Mo) (N := 35) hx hb hts i_Mo t_Mo_ok n_Mo hown hK Y gF_46 rfl (by decide) kf_Mo_135 rfl (by decide +kernel) rfl rfl (Nat.le_of_ble_eq_true rfl) gF_46 d_Mo_committing_60 (fun X15 H locs hf Y => ?_)
      refine lv_aload_n hx hb d_Mo_committing_63 rfl (lv_at hl 0 rfl) ?_
      refine gy_get (ci := 8) (v := Value.int (X15.I 46 20)) (C := "CommitLedgerModel") (T := F_Mo) (N := 35) hx hb hts i_Mo hown hK Y gF_46 rfl 20 (by decide) kf_Mo_135 rfl d_Mo_committing_64 ?_
      exact gy_iret hf hx hb hr hlocks hK Y (Nat.zero_le _) (Nat.zero_le _) d_Mo_committing_67
    · replace hf := gp_t c32_12 hf
      refine lv_iconst (v := 0) hx hb d_Mo_committing_35 (by decide) ?_
      exact gy_iret hf hx hb hr hlocks hK Y (Nat.zero_le _) (Nat.zero_le _) d_Mo_committing_36
  refine gy_cut (pcJ := 23) Y (fun s : gX => f_Mo_committing_23 s) o (fun s => s) (fun s ls => lv_has ls 2 [(0, Value.ref (b 46))]) (fun s => []) ?_ (fun J23 => ?_)
  · rintro X16 H locs ls hf hl Y
    have hl : lv_has ls 2 [(0, Value.ref (b 46))] := hl
    have Y : gy D t b A s.heap X0 X16 H locs := Y
    have hf : f_Mo_committing_23 X16 = some o := hf
    unfold f_Mo_committing_23 at hf
    refine lv_aload_n hx hb d_Mo_committing_23 rfl (lv_at hl 0 rfl) ?_
    refine gy_get (ci := 8) (v := Value.int (X16.I 46 20)) (C := "CommitLedgerModel") (T := F_Mo) (N := 35) hx hb hts i_Mo hown hK Y gF_46 rfl 20 (by decide) kf_Mo_135 rfl d_Mo_committing_24 ?_
    exact gy_iret hf hx hb hr hlocks hK Y (Nat.zero_le _) (Nat.zero_le _) d_Mo_committing_27
  unfold f_Mo_committing at hf
  refine lv_aload_n hx hb d_Mo_committing_0 rfl (lv_at hl 0 rfl) ?_
  refine gy_get (ci := 8) (v := Value.int (X0.I 46 19)) (C := "CommitLedgerModel") (T := F_Mo) (N := 35) hx hb hts i_Mo hown hK Y gF_46 rfl 19 (by decide) kf_Mo_109 rfl d_Mo_committing_1 ?_
  refine lv_if_ne (tgt := 28) hx hb d_Mo_committing_4 (by decide) (fun c4_17 => ?_) (fun c4_17 => ?_)
  · replace hf := gp_f c4_17 hf
    exact J28 X0 _ _ _ hf (lv_sub hl [0] rfl) Y
  · replace hf := gp_t c4_17 hf
    refine lv_aload_n hx hb d_Mo_committing_7 rfl (lv_at hl 0 rfl) ?_
    obtain ⟨x18, X18, hF18, hf⟩ := gCi_el hf
    refine gy_callI (rm := { frames := 6, cells := 0, slots := 0, locals := 123 }) (ig := .invokevirtual 239) (av := [Value.ref (b 46)]) Y (fun ws h hS hw => K_Mo_preparing l htr D tys z _ ws h hS t ht b X0 hw (gR.i x18, X18) hF18) (gx_invV (As := []) (rest := []) hx hb hown hts km_Mo_239 kI_Mo_preparing kV_Mo_preparing kc_Mo_preparing (by decide) (show (parseMethodDescriptor y_Mo_preparing.desc).map (fun d => d.parameters.length) = some 0 by decide +kernel) (gy_recv (ci := 8) hK Y rfl gF_46) rfl rfl d_Mo_committing_8) (gx_cw (z := 0) hts kc_Mo_preparing kN_Mo rfl rfl ⟨Nat.le_of_ble_eq_true rfl, Nat.le_of_ble_eq_true rfl⟩) hb hml hz hK hY hAz hA hl.1 (lv_room (Nat.le_of_ble_eq_true rfl)) d_Mo_committing_8 ⟨Nat.zero_le _, Nat.zero_le _⟩ (fun H locs Y => ?_)
    refine lv_istore_n (lv' := [(1, Value.int x18), (0, Value.ref (b 46))]) hx hb d_Mo_committing_11 rfl hl (by decide) rfl (fun ls hl => ?_)
    refine lv_aload_n hx hb d_Mo_committing_12 rfl (lv_at hl 1 rfl) ?_
    refine gy_get (ci := 8) (v := Value.int (X18.I 46 0)) (C := "CommitLedgerModel") (T := F_Mo) (N := 35) hx hb hts i_Mo hown hK Y gF_46 rfl 0 (by decide) kf_Mo_84 rfl d_Mo_committing_13 ?_
    refine lv_if_ne (tgt := 23) hx hb d_Mo_committing_16 (by decide) (fun c16_19 => ?_) (fun c16_19 => ?_)
    · replace hf := gp_f c16_19 hf
      exact J23 X18 _ _ _ hf (lv_sub hl [1] rfl) Y
    · replace hf := gp_t c16_19 hf
      refine lv_iload_n hx hb d_Mo_committing_19 rfl (lv_at hl 0 rfl) ?_
      refine lv_if_ne (tgt := 28) hx hb d_Mo_committing_20 (by decide) (fun c20_20 => ?_) (fun c20_20 => ?_)
      · replace hf := gp_f c20_20 hf
        exact J28 X18 _ _ _ hf (lv_sub hl [1] rfl) Y
      · replace hf := gp_t c20_20 hf
        exact J23 X18 _ _ _ hf (lv_sub hl [1] rfl) Y

def f_Mo_close1 (X0 : gX) (a1 : Int32) : Option (gR × gX) := gB (X0.w 46 18 0) (fun X1 => gB (X1.w 46 30 0) (fun X2 => gB (X2.w 46 19 0) (fun X3 => gB (X3.w 46 23 0) (fun X4 => some (gR.v, X4)))))
set_option maxHeartbeats 4000000 in
set_option maxRecDepth 100000 in
theorem K_Mo_close1 (l : Launch) (htr : l.stackTraces = false) (D : va_G) (tys : List (ClassId × FieldType)) (z sz : Nat) (ws : va_W) (h : gm_M) (hM : gm_S h ws) (t : Nat → ClassId) (ht : gTy t tys) (b : Nat → Nat) (X0 : gX) (hw : gw D t b X0 h) (a1 : Int32) (o : gR × gX) (hf : f_Mo_close1 X0 a1 = some o) : gx_Met l y_Mo_close1 [Cond.code y_Mo_close1 b_Mo_close1 2 none] { frames := 1, cells := 0, slots := 0, locals := 12 } (gx_P z sz D classes tys ws [Value.ref (b 46), Value.int a1]) (gx_Q D classes tys (va_A ws sz) (gPo D t b X0 o)) (0) (0) (va_A ws sz) := by
  refine gx_ofW (cc := b_Mo_close1) (maxL := 2) (ret := none) (by decide) rfl ?_
  intro p e s m args below meth c s₁ B hml hv
  obtain ⟨rfl, hsz, hz, hP, hK, hD0, hY⟩ := hv
  have hx := B.exec
  have hb := B.bytes
  have hr := B.returns
  have hts := hY.hts (#[Value.ref (b 46), Value.int a1] : Array Value)
  have hown : s.vm.findClass "CommitLedgerModel" = some m.cls := findClass_of_methodNamed B.named
  have hlocks := B.notSynchronized
  subst hsz
  have hAz := gx_az hD0 hz
  have hD := hD0.self (sz := s.heap.size)
  have hA : ∀ q : Nat, s.heap.size ≤ q → va_A ws s.heap.size q := fun q h => Or.inr h
  generalize va_A ws s.heap.size = A at hD hA hAz ⊢
  have Y : gy D t b A s.heap X0 X0 s.heap [] := ⟨h, ⟨ws, hM, hP, hD, va_S.rf⟩, hw, gEq.rf⟩
  clear hP hD hM hD0 hw
  obtain ⟨ht0, ht1, ht2, ht3, ht4, ht5, ht6, ht7, ht8⟩ := id ht
  have hl := lv_entry ([Value.ref (b 46), Value.int a1]) (n := 2) (Nat.le_of_ble_eq_true rfl)
  rw [lg_entry_eq]
  generalize (lg_sl ([Value.ref (b 46), Value.int a1]) ++ List.replicate (2 - (lg_sl ([Value.ref (b 46), Value.int a1])).length) Slot.unset).toArray = ls at hl ⊢
  have hl : lv_has ls 2 [(0, Value.ref (b 46)), (1, Value.int a1)] := hl
  unfold f_Mo_close1 at hf
  refine lv_aload_n hx hb d_Mo_close1_0 rfl (lv_at hl 0 rfl) ?_
  refine lv_iconst (v := 0) hx hb d_Mo_close1_1 (by decide) ?_
  refine gy_put hf (ci := 8) (ty := .boolean) (C := "CommitLedgerModel") (T := F_Mo) (N := 35) hx hb hts i_Mo t_Mo_ok n_Mo hown hK Y gF_46 rfl (by decide) kf_Mo_99 rfl (by decide +kernel) rfl rfl (Nat.le_of_ble_eq_true rfl) gF_46 d_Mo_close1_2 (fun X5 H locs hf Y => ?_)
  refine lv_aload_n hx hb d_Mo_close1_5 rfl (lv_at hl 0 rfl) ?_
  refine lv_iconst (v := 0) hx hb d_Mo_close1_6 (by decide) ?_
  refine gy_put hf (ci := 8) (ty := .int) (C := "CommitLedgerModel") (T := F_Mo) (N := 35) hx hb hts i_Mo t_Mo_ok n_Mo hown hK Y gF_46 rfl (by decide) kf_Mo_106 rfl (by decide +kernel) rfl rfl (Nat.le_of_ble_eq_true rfl) gF_46 d_Mo_close1_7 (fun X6 H locs hf Y => ?_)
  refine lv_aload_n hx hb d_Mo_close1_10 rfl (lv_at hl 0 rfl) ?_
  refine lv_iconst (v := 0) hx hb d_Mo_close1_11 (by decide) ?_
  refine gy_put hf (ci := 8) (ty := .boolean) (C := "CommitLedgerModel") (T := F_Mo) (N := 35) hx hb hts i_Mo t_Mo_ok n_Mo hown hK Y gF_46 rfl (by decide) kf_Mo_109 rfl (by decide +kernel) rfl rfl (Nat.le_of_ble_eq_true rfl) gF_46 d_Mo_close1_12 (fun X7 H locs hf Y => ?_)
  refine lv_aload_n hx hb d_Mo_close1_15 rfl (lv_at hl 0 rfl) ?_
  refine lv_iconst (v := 0) hx hb d_Mo_close1_16 (by decide) ?_
  refine gy_put hf (ci := 8) (ty := .int) (C := "CommitLedgerModel") (T := F_Mo) (N := 35) hx hb hts i_Mo t_Mo_ok n_Mo hown hK Y gF_46 rfl (by decide) kf_Mo_172 rfl (by decide +kernel) rfl rfl (Nat.le_of_ble_eq_true rfl) gF_46 d_Mo_close1_17 (fun X8 H locs hf Y => ?_)
  exact gy_vret hf hx hb hr hlocks hK Y (Nat.zero_le _) (Nat.zero_le _) d_Mo_close1_20

def f_Mo_anyReader_10 (X : gX) (i2 : Int32) (i3 : Int32) : Option ((Int32) ⊕ (gR × gX)) := (if i2 ≤ i3 then gLf (some (gR.i 0, X)) else (if gIn i3 4 then (if (X.I (84 + 8 * gn i3) 10) ≤ (0 : Int32) then some (Sum.inl (i3 + 1)) else gLf (some (gR.i 1, X))) else none))
def f_Mo_anyReader (X0 : gX) : Option (gR × gX) := gI (fun s : Int32 => f_Mo_anyReader_10 X0 4 s) gK 0
set_option maxHeartbeats 4000000 in
set_option maxRecDepth 100000 in
theorem K_Mo_anyReader (l : Launch) (htr : l.stackTraces = false) (D : va_G) (tys : List (ClassId × FieldType)) (z sz : Nat) (ws : va_W) (h : gm_M) (hM : gm_S h ws) (t : Nat → ClassId) (ht : gTy t tys) (b : Nat → Nat) (X0 : gX) (hw : gw D t b X0 h) (o : gR × gX) (hf : f_Mo_anyReader X0 = some o) : gx_Met l y_Mo_anyReader [Cond.code y_Mo_anyReader b_Mo_anyReader 5 (some .boolean)] { frames := 1, cells := 0, slots := 0, locals := 12 } (gx_P z sz D classes tys ws [Value.ref (b 46)]) (gx_Q D classes tys (va_A ws sz) (gPo D t b X0 o)) (0) (0) (va_A ws sz) := by
  refine gx_ofW (cc := b_Mo_anyReader) (maxL := 5) (ret := (some .boolean)) (by decide) rfl ?_
  intro p e s m args below meth c s₁ B hml hv
  obtain ⟨rfl, hsz, hz, hP, hK, hD0, hY⟩ := hv
  have hx := B.exec
  have hb := B.bytes
  have hr := B.returns
  have hts := hY.hts (#[Value.ref (b 46)] : Array Value)
  have hown : s.vm.findClass "CommitLedgerModel" = some m.cls := findClass_of_methodNamed B.named
  have hlocks := B.notSynchronized
  subst hsz
  have hAz := gx_az hD0 hz
  have hD := hD0.self (sz := s.heap.size)
  have hA : ∀ q : Nat, s.heap.size ≤ q → va_A ws s.heap.size q := fun q h => Or.inr h
  generalize va_A ws s.heap.size = A at hD hA hAz ⊢
  have Y : gy D t b A s.heap X0 X0 s.heap [] := ⟨h, ⟨ws, hM, hP, hD, va_S.rf⟩, hw, gEq.rf⟩
  clear hP hD hM hD0 hw
  obtain ⟨ht0, ht1, ht2, ht3, ht4, ht5, ht6, ht7, ht8⟩ := id ht
  have hl := lv_entry ([Value.ref (b 46)]) (n := 5) (Nat.le_of_ble_eq_true rfl)
  rw [lg_entry_eq]
  generalize (lg_sl ([Value.ref (b 46)]) ++ List.replicate (5 - (lg_sl ([Value.ref (b 46)])).length) Slot.unset).toArray = ls at hl ⊢
  have hl : lv_has ls 5 [(0, Value.ref (b 46))] := hl
  unfold f_Mo_anyReader at hf
  refine lv_aload_n hx hb d_Mo_anyReader_0 rfl (lv_at hl 0 rfl) ?_
  refine gy_get (ci := 8) (v := Value.ref (b 83)) (C := "CommitLedgerModel") (T := F_Mo) (N := 35) hx hb hts i_Mo hown hK Y gF_46 rfl 31 (by decide) kf_Mo_76 rfl d_Mo_anyReader_1 ?_
  refine lv_astore_n (lv' := [(1, Value.ref (b 83)), (0, Value.ref (b 46))]) hx hb d_Mo_anyReader_4 rfl hl (by decide) rfl (fun ls hl => ?_)
  refine lv_aload_n hx hb d_Mo_anyReader_5 rfl (lv_at hl 0 rfl) ?_
  refine gy_alen (v := 4) hx hb hK Y 5 gF_83 ht5 rfl d_Mo_anyReader_6 ?_
  refine lv_istore_n (lv' := [(2, Value.int 4), (1, Value.ref (b 83)), (0, Value.ref (b 46))]) hx hb d_Mo_anyReader_7 rfl hl (by decide) rfl (fun ls hl => ?_)
  refine lv_iconst (v := 0) hx hb d_Mo_anyReader_8 (by decide) ?_
  refine lv_istore_n (lv' := [(3, Value.int 0), (2, Value.int 4), (1, Value.ref (b 83)), (0, Value.ref (b 46))]) hx hb d_Mo_anyReader_9 rfl hl (by decide) rfl (fun ls hl => ?_)
  refine gy_iter (fun s : Int32 => X0) (fun (s : Int32) ls => lv_has ls 5 [(3, Value.int s), (1, Value.ref (b 83)), (2, Value.int 4)]) ?_ gK 0 _ _ _ hf (lv_sub hl [0, 2, 1] rfl) Y
  rintro i3_8 u8 H locs ls hf hl Y hk8 ho8
  have hl : lv_has ls 5 [(3, Value.int i3_8), (1, Value.ref (b 83)), (2, Value.int 4)] := hl
  have Y : gy D t b A s.heap X0 X0 H locs := Y
  have hf : f_Mo_anyReader_10 X0 4 i3_8 = some u8 := hf
  unfold f_Mo_anyReader_10 at hf
  refine lv_iload_n hx hb d_Mo_anyReader_10 rfl (lv_at hl 0 rfl) ?_
  refine lv_iload_n hx hb d_Mo_anyReader_11 rfl (lv_at hl 2 rfl) ?_
  refine lv_icmp_ge (tgt := 36) hx hb d_Mo_anyReader_12 (by decide) (fun c12_9 => ?_) (fun c12_9 => ?_)
  · replace hf := gp_t c12_9 hf
    refine lv_iconst (v := 0) hx hb d_Mo_anyReader_36 (by decide) ?_
    replace hf := gU hf ho8
    exact gy_zret hf hx hb hr hlocks hK Y (Nat.zero_le _) (Nat.zero_le _) rfl d_Mo_anyReader_37
  · replace hf := gp_f c12_9 hf
    refine lv_aload_n hx hb d_Mo_anyReader_15 rfl (lv_at hl 1 rfl) ?_
    refine lv_iload_n hx hb d_Mo_anyReader_16 rfl (lv_at hl 0 rfl) ?_
    refine gy_aalR hf hx hb hK Y 5 gF_83 ht5 d_Mo_anyReader_17 (fun hi10 hf => ?_)
    refine lv_astore (lv' := [(4, Value.ref (b (84 + 8 * gn i3_8))), (3, Value.int i3_8), (1, Value.ref (b 83)), (2, Value.int 4)]) hx hb d_Mo_anyReader_18 hl (by decide) rfl (fun ls hl => ?_)
    refine lv_aload hx hb d_Mo_anyReader_20 (lv_at hl 0 rfl) ?_
    refine gy_get (ci := 9) (v := Value.int (X0.I (84 + 8 * gn i3_8) 10)) (C := "CommitLedgerModel$Version") (T := F_Ve) (N := 11) hx hb hts i_Ve hown hK Y (gF_Ve (gVer_rd hi10)) rfl 10 (by decide) kf_Mo_103 rfl d_Mo_anyReader_22 ?_
    refine lv_if_le (tgt := 30) hx hb d_Mo_anyReader_25 (by decide) (fun c25_11 => ?_) (fun c25_11 => ?_)
    · replace hf := gp_t c25_11 hf
      refine lv_iinc (v := i3_8 + 1) (lv' := [(3, Value.int (i3_8 + 1)), (4, Value.ref (b (84 + 8 * gn i3_8))), (1, Value.ref (b 83)), (2, Value.int 4)]) hx hb d_Mo_anyReader_30 hl (k := 1) rfl (rfl) (by decide) rfl (fun ls hl => ?_)
      refine lv_goto (tgt := 10) hx hb d_Mo_anyReader_33 (by decide) ?_
      exact hk8 _ _ _ _ hf (lv_sub hl [0, 2, 3] rfl) Y
    · replace hf := gp_f c25_11 hf
      refine lv_iconst (v := 1) hx hb d_Mo_anyReader_28 (by decide) ?_
      replace hf := gU hf ho8
      exact gy_zret hf hx hb hr hlocks hK Y (Nat.zero_le _) (Nat.zero_le _) rfl d_Mo_anyReader_29

def f_Mo_reading_65 (X : gX) (i1000 : Int32) : Option (gR × gX) := gB (X.w 46 0 i1000) (fun X4 => (if gIn 0 4 then some (gR.a (some (84 + 8 * gn 0)), X4) else none))
def f_Mo_reading_43 (X : gX) (i1 : Int32) (i3 : Int32) (i4 : Int32) : Option ((Int32) ⊕ (gR × gX)) := some (Sum.inl (i4 + 1))
def f_Mo_reading_11 (X : gX) (i1 : Int32) (i3 : Int32) (i4 : Int32) : Option ((Int32) ⊕ (gR × gX)) := (if i3 ≤ i4 then (if (X.I 46 0) = (0 : Int32) then gLf (f_Mo_reading_65 X 3) else gLf (f_Mo_reading_65 X (X.I 46 0))) else (if gIn i4 4 then (if (X.I (84 + 8 * gn i4) 10) ≤ (0 : Int32) then f_Mo_reading_43 X i1 i3 i4 else (if (X.I (84 + 8 * gn i4) 10) = i1 then gLf (some (gR.a (some (84 + 8 * gn i4)), X)) else f_Mo_reading_43 X i1 i3 i4)) else none))
def f_Mo_reading (X0 : gX) (a1 : Int32) : Option (gR × gX) := gI (fun s : Int32 => f_Mo_reading_11 X0 a1 4 s) gK 0
set_option maxHeartbeats 4000000 in
set_option maxRecDepth 100000 in
theorem K_Mo_reading (l : Launch) (htr : l.stackTraces = false) (D : va_G) (tys : List (ClassId × FieldType)) (z sz : Nat) (ws : va_W) (h : gm_M) (hM : gm_S h ws) (t : Nat → ClassId) (ht : gTy t tys) (b : Nat → Nat) (X0 : gX) (hw : gw D t b X0 h) (a1 : Int32) (o : gR × gX) (hf : f_Mo_reading X0 a1 = some o) : gx_Met l y_Mo_reading [Cond.code y_Mo_reading b_Mo_reading 6 (some (.object "CommitLedgerModel$Version"))] { frames := 1, cells := 0, slots := 0, locals := 12 } (gx_P z sz D classes tys ws [Value.ref (b 46), Value.int a1]) (gx_Q D classes tys (va_A ws sz) (gPo D t b X0 o)) (0) (0) (va_A ws sz) := by
  refine gx_ofW (cc := b_Mo_reading) (maxL := 6) (ret := (some (.object "CommitLedgerModel$Version"))) (by decide) rfl ?_
  intro p e s m args below meth c s₁ B hml hv
  obtain ⟨rfl, hsz, hz, hP, hK, hD0, hY⟩ := hv
  have hx := B.exec
  have hb := B.bytes
  have hr := B.returns
  have hts := hY.hts (#[Value.ref (b 46), Value.int a1] : Array Value)
  have hown : s.vm.findClass "CommitLedgerModel" = some m.cls := findClass_of_methodNamed B.named
  have hlocks := B.notSynchronized
  subst hsz
  have hAz := gx_az hD0 hz
  have hD := hD0.self (sz := s.heap.size)
  have hA : ∀ q : Nat, s.heap.size ≤ q → va_A ws s.heap.size q := fun q h => Or.inr h
  generalize va_A ws s.heap.size = A at hD hA hAz ⊢
  have Y : gy D t b A s.heap X0 X0 s.heap [] := ⟨h, ⟨ws, hM, hP, hD, va_S.rf⟩, hw, gEq.rf⟩
  clear hP hD hM hD0 hw
  obtain ⟨ht0, ht1, ht2, ht3, ht4, ht5, ht6, ht7, ht8⟩ := id ht
  have hl := lv_entry ([Value.ref (b 46), Value.int a1]) (n := 6) (Nat.le_of_ble_eq_true rfl)
  rw [lg_entry_eq]
  generalize (lg_sl ([Value.ref (b 46), Value.int a1]) ++ List.replicate (6 - (lg_sl ([Value.ref (b 46), Value.int a1])).length) Slot.unset).toArray = ls at hl ⊢
  have hl : lv_has ls 6 [(0, Value.ref (b 46)), (1, Value.int a1)] := hl
  refine gy_cut (pcJ := 65) Y (fun s : gX × Int32 => f_Mo_reading_65 s.1 s.2) o (fun s => s.1) (fun s ls => lv_has ls 6 [(0, Value.ref (b 46))]) (fun s => [Value.int s.2, Value.ref (b 46)]) ?_ (fun J65 => ?_)
  · rintro ⟨X15, i1000_15⟩ H locs ls hf hl Y
    have hl : lv_has ls 6 [(0, Value.ref (b 46))] := hl
    have Y : gy D t b A s.heap X0 X15 H locs := Y
    have hf : f_Mo_reading_65 X15 i1000_15 = some o := hf
    unfold f_Mo_reading_65 at hf
    refine W.eq (g2 := F0 m 65 ls [Value.int i1000_15, Value.ref (b 46)]) rfl ?_
    refine gy_put hf (ci := 8) (ty := .int) (C := "CommitLedgerModel") (T := F_Mo) (N := 35) hx hb hts i_Mo t_Mo_ok n_Mo hown hK Y gF_46 rfl (by decide) kf_Mo_84 rfl (by decide +kernel) rfl rfl (Nat.le_of_ble_eq_true rfl) gF_46 d_Mo_reading_65 (fun X16 H locs hf Y => ?_)
    refine lv_aload_n hx hb d_Mo_reading_68 rfl (lv_at hl 0 rfl) ?_
    refine gy_get (ci := 8) (v := Value.ref (b 83)) (C := "CommitLedgerModel") (T := F_Mo) (N := 35) hx hb hts i_Mo hown hK Y gF_46 rfl 31 (by decide) kf_Mo_76 rfl d_Mo_reading_69 ?_
    refine lv_iconst (v := 0) hx hb d_Mo_reading_72 (by decide) ?_
    refine gy_aalR hf hx hb hK Y 5 gF_83 ht5 d_Mo_reading_73 (fun hi17 hf => ?_)
    exact gy_aretO (x := (some (84 + 8 * gn 0))) hf hx hb hr hlocks hK Y (Nat.zero_le _) (Nat.zero_le _) d_Mo_reading_74
  unfold f_Mo_reading at hf
  refine lv_aload_n hx hb d_Mo_reading_0 rfl (lv_at hl 0 rfl) ?_
  refine gy_get (ci := 8) (v := Value.ref (b 83)) (C := "CommitLedgerModel") (T := F_Mo) (N := 35) hx hb hts i_Mo hown hK Y gF_46 rfl 31 (by decide) kf_Mo_76 rfl d_Mo_reading_1 ?_
  refine lv_astore_n (lv' := [(2, Value.ref (b 83)), (0, Value.ref (b 46)), (1, Value.int a1)]) hx hb d_Mo_reading_4 rfl hl (by decide) rfl (fun ls hl => ?_)
  refine lv_aload_n hx hb d_Mo_reading_5 rfl (lv_at hl 0 rfl) ?_
  refine gy_alen (v := 4) hx hb hK Y 5 gF_83 ht5 rfl d_Mo_reading_6 ?_
  refine lv_istore_n (lv' := [(3, Value.int 4), (2, Value.ref (b 83)), (0, Value.ref (b 46)), (1, Value.int a1)]) hx hb d_Mo_reading_7 rfl hl (by decide) rfl (fun ls hl => ?_)
  refine lv_iconst (v := 0) hx hb d_Mo_reading_8 (by decide) ?_
  refine lv_istore (lv' := [(4, Value.int 0), (3, Value.int 4), (2, Value.ref (b 83)), (0, Value.ref (b 46)), (1, Value.int a1)]) hx hb d_Mo_reading_9 hl (by decide) rfl (fun ls hl => ?_)
  refine gy_iter (fun s : Int32 => X0) (fun (s : Int32) ls => lv_has ls 6 [(4, Value.int s), (0, Value.ref (b 46)), (1, Value.int a1), (2, Value.ref (b 83)), (3, Value.int 4)]) ?_ gK 0 _ _ _ hf (lv_sub hl [0, 3, 4, 2, 1] rfl) Y
  rintro i4_18 u18 H locs ls hf hl Y hk18 ho18
  have hl : lv_has ls 6 [(4, Value.int i4_18), (0, Value.ref (b 46)), (1, Value.int a1), (2, Value.ref (b 83)), (3, Value.int 4)] := hl
  have Y : gy D t b A s.heap X0 X0 H locs := Y
  have hf : f_Mo_reading_11 X0 a1 4 i4_18 = some u18 := hf
  refine gy_cut (pcJ := 43) Y (fun s : Int32 => f_Mo_reading_43 X0 a1 4 s) u18 (fun s => X0) (fun s ls => lv_has ls 6 [(4, Value.int s), (0, Value.ref (b 46)), (1, Value.int a1), (2, Value.ref (b 83)), (3, Value.int 4)]) (fun s => []) ?_ (fun J43 => ?_)
  · rintro i4_19 H locs ls hf hl Y
    have hl : lv_has ls 6 [(4, Value.int i4_19), (0, Value.ref (b 46)), (1, Value.int a1), (2, Value.ref (b 83)), (3, Value.int 4)] := hl
    have Y : gy D t b A s.heap X0 X0 H locs := Y
    have hf : f_Mo_reading_43 X0 a1 4 i4_19 = some u18 := hf
    unfold f_Mo_reading_43 at hf
    refine lv_iinc (v := i4_19 + 1) (lv' := [(4, Value.int (i4_19 + 1)), (0, Value.ref (b 46)), (1, Value.int a1), (2, Value.ref (b 83)), (3, Value.int 4)]) hx hb d_Mo_reading_43 hl (k := 0) rfl (rfl) (by decide) rfl (fun ls hl => ?_)
    refine lv_goto (tgt := 11) hx hb d_Mo_reading_46 (by decide) ?_
    exact hk18 _ _ _ _ hf (lv_sub hl [0, 1, 2, 3, 4] rfl) Y
  unfold f_Mo_reading_11 at hf
  refine lv_iload hx hb d_Mo_reading_11 (lv_at hl 0 rfl) ?_
  refine lv_iload_n hx hb d_Mo_reading_13 rfl (lv_at hl 4 rfl) ?_
  refine lv_icmp_ge (tgt := 49) hx hb d_Mo_reading_14 (by decide) (fun c14_20 => ?_) (fun c14_20 => ?_)
  · replace hf := gp_t c14_20 hf
    refine lv_aload_n hx hb d_Mo_reading_49 rfl (lv_at hl 1 rfl) ?_
    refine lv_aload_n hx hb d_Mo_reading_50 rfl (lv_at hl 1 rfl) ?_
    refine gy_get (ci := 8) (v := Value.int (X0.I 46 0)) (C := "CommitLedgerModel") (T := F_Mo) (N := 35) hx hb hts i_Mo hown hK Y gF_46 rfl 0 (by decide) kf_Mo_84 rfl d_Mo_reading_51 ?_
    refine lv_if_ne (tgt := 61) hx hb d_Mo_reading_54 (by decide) (fun c54_21 => ?_) (fun c54_21 => ?_)
    · replace hf := gp_f c54_21 hf
      refine lv_aload_n hx hb d_Mo_reading_61 rfl (lv_at hl 1 rfl) ?_
      refine gy_get (ci := 8) (v := Value.int (X0.I 46 0)) (C := "CommitLedgerModel") (T := F_Mo) (N := 35) hx hb hts i_Mo hown hK Y gF_46 rfl 0 (by decide) kf_Mo_84 rfl d_Mo_reading_62 ?_
      replace hf := gU hf ho18
      exact J65 (X0, X0.I 46 0) _ _ _ hf (lv_sub hl [1] rfl) Y
    · replace hf := gp_t c54_21 hf
      refine lv_iconst (v := 3) hx hb d_Mo_reading_57 (by decide) ?_
      refine lv_goto (tgt := 65) hx hb d_Mo_reading_58 (by decide) ?_
      replace hf := gU hf ho18
      exact J65 (X0, 3) _ _ _ hf (lv_sub hl [1] rfl) Y
  · replace hf := gp_f c14_20 hf
    refine lv_aload_n hx hb d_Mo_reading_17 rfl (lv_at hl 3 rfl) ?_
    refine lv_iload hx hb d_Mo_reading_18 (lv_at hl 0 rfl) ?_
    refine gy_aalR hf hx hb hK Y 5 gF_83 ht5 d_Mo_reading_20 (fun hi22 hf => ?_)
    refine lv_astore (lv' := [(5, Value.ref (b (84 + 8 * gn i4_18))), (4, Value.int i4_18), (0, Value.ref (b 46)), (1, Value.int a1), (2, Value.ref (b 83)), (3, Value.int 4)]) hx hb d_Mo_reading_21 hl (by decide) rfl (fun ls hl => ?_)
    refine lv_aload hx hb d_Mo_reading_23 (lv_at hl 0 rfl) ?_
    refine gy_get (ci := 9) (v := Value.int (X0.I (84 + 8 * gn i4_18) 10)) (C := "CommitLedgerModel$Version") (T := F_Ve) (N := 11) hx hb hts i_Ve hown hK Y (gF_Ve (gVer_rd hi22)) rfl 10 (by decide) kf_Mo_103 rfl d_Mo_reading_25 ?_
    refine lv_if_le (tgt := 43) hx hb d_Mo_reading_28 (by decide) (fun c28_23 => ?_) (fun c28_23 => ?_)
    · replace hf := gp_t c28_23 hf
      exact J43 i4_18 _ _ _ hf (lv_sub hl [1, 2, 3, 4, 5] rfl) Y
    · replace hf := gp_f c28_23 hf
      refine lv_aload hx hb d_Mo_reading_31 (lv_at hl 0 rfl) ?_
      refine gy_get (ci := 9) (v := Value.int (X0.I (84 + 8 * gn i4_18) 10)) (C := "CommitLedgerModel$Version") (T := F_Ve) (N := 11) hx hb hts i_Ve hown hK Y (gF_Ve (gVer_rd hi22)) rfl 10 (by decide) kf_Mo_103 rfl d_Mo_reading_33 ?_
      refine lv_iload_n hx hb d_Mo_reading_36 rfl (lv_at hl 3 rfl) ?_
      refine lv_icmp_ne (tgt := 43) hx hb d_Mo_reading_37 (by decide) (fun c37_24 => ?_) (fun c37_24 => ?_)
      · replace hf := gp_f c37_24 hf
        exact J43 i4_18 _ _ _ hf (lv_sub hl [1, 2, 3, 4, 5] rfl) Y
      · replace hf := gp_t c37_24 hf
        refine lv_aload hx hb d_Mo_reading_40 (lv_at hl 0 rfl) ?_
        replace hf := gU hf ho18
        exact gy_aretO (x := (some (84 + 8 * gn i4_18))) hf hx hb hr hlocks hK Y (Nat.zero_le _) (Nat.zero_le _) d_Mo_reading_42

def f_Mo_bufferLive_24 (X : gX) (i1 : Int32) (i2 : Int32) : Option ((Int32 × Int32) ⊕ (gR × gX)) := some (Sum.inl (i1, i2 + 1))
def f_Mo_bufferLive_4 (X : gX) (i1 : Int32) (i2 : Int32) : Option ((Int32 × Int32) ⊕ (gR × gX)) := (if (X.I 46 23) ≤ i2 then gLf (some (gR.i i1, X)) else (if gIn i2 4096 then (if (X.I 79 (gn i2)) = (0 : Int32) then f_Mo_bufferLive_24 X i1 i2 else f_Mo_bufferLive_24 X (i1 + 1) i2) else none))
def f_Mo_bufferLive (X0 : gX) : Option (gR × gX) := gI (fun s : Int32 × Int32 => f_Mo_bufferLive_4 X0 s.1 s.2) gK (0, 0)
set_option maxHeartbeats 4000000 in
set_option maxRecDepth 100000 in
theorem K_Mo_bufferLive (l : Launch) (htr : l.stackTraces = false) (D : va_G) (tys : List (ClassId × FieldType)) (z sz : Nat) (ws : va_W) (h : gm_M) (hM : gm_S h ws) (t : Nat → ClassId) (ht : gTy t tys) (b : Nat → Nat) (X0 : gX) (hw : gw D t b X0 h) (o : gR × gX) (hf : f_Mo_bufferLive X0 = some o) : gx_Met l y_Mo_bufferLive [Cond.code y_Mo_bufferLive b_Mo_bufferLive 3 (some .int)] { frames := 1, cells := 0, slots := 0, locals := 12 } (gx_P z sz D classes tys ws [Value.ref (b 46)]) (gx_Q D classes tys (va_A ws sz) (gPo D t b X0 o)) (0) (0) (va_A ws sz) := by
  refine gx_ofW (cc := b_Mo_bufferLive) (maxL := 3) (ret := (some .int)) (by decide) rfl ?_
  intro p e s m args below meth c s₁ B hml hv
  obtain ⟨rfl, hsz, hz, hP, hK, hD0, hY⟩ := hv
  have hx := B.exec
  have hb := B.bytes
  have hr := B.returns
  have hts := hY.hts (#[Value.ref (b 46)] : Array Value)
  have hown : s.vm.findClass "CommitLedgerModel" = some m.cls := findClass_of_methodNamed B.named
  have hlocks := B.notSynchronized
  subst hsz
  have hAz := gx_az hD0 hz
  have hD := hD0.self (sz := s.heap.size)
  have hA : ∀ q : Nat, s.heap.size ≤ q → va_A ws s.heap.size q := fun q h => Or.inr h
  generalize va_A ws s.heap.size = A at hD hA hAz ⊢
  have Y : gy D t b A s.heap X0 X0 s.heap [] := ⟨h, ⟨ws, hM, hP, hD, va_S.rf⟩, hw, gEq.rf⟩
  clear hP hD hM hD0 hw
  obtain ⟨ht0, ht1, ht2, ht3, ht4, ht5, ht6, ht7, ht8⟩ := id ht
  have hl := lv_entry ([Value.ref (b 46)]) (n := 3) (Nat.le_of_ble_eq_true rfl)
  rw [lg_entry_eq]
  generalize (lg_sl ([Value.ref (b 46)]) ++ List.replicate (3 - (lg_sl ([Value.ref (b 46)])).length) Slot.unset).toArray = ls at hl ⊢
  have hl : lv_has ls 3 [(0, Value.ref (b 46))] := hl
  unfold f_Mo_bufferLive at hf
  refine lv_iconst (v := 0) hx hb d_Mo_bufferLive_0 (by decide) ?_
  refine lv_istore_n (lv' := [(1, Value.int 0), (0, Value.ref (b 46))]) hx hb d_Mo_bufferLive_1 rfl hl (by decide) rfl (fun ls hl => ?_)
  refine lv_iconst (v := 0) hx hb d_Mo_bufferLive_2 (by decide) ?_
  refine lv_istore_n (lv' := [(2, Value.int 0), (1, Value.int 0), (0, Value.ref (b 46))]) hx hb d_Mo_bufferLive_3 rfl hl (by decide) rfl (fun ls hl => ?_)
  refine gy_iter (fun s : Int32 × Int32 => X0) (fun (s : Int32 × Int32) ls => lv_has ls 3 [(1, Value.int s.1), (2, Value.int s.2), (0, Value.ref (b 46))]) ?_ gK (0, 0) _ _ _ hf (lv_sub hl [1, 0, 2] rfl) Y
  rintro ⟨i1_7, i2_7⟩ u7 H locs ls hf hl Y hk7 ho7
  have hl : lv_has ls 3 [(1, Value.int i1_7), (2, Value.int i2_7), (0, Value.ref (b 46))] := hl
  have Y : gy D t b A s.heap X0 X0 H locs := Y
  have hf : f_Mo_bufferLive_4 X0 i1_7 i2_7 = some u7 := hf
  refine gy_cut (pcJ := 24) Y (fun s : Int32 × Int32 => f_Mo_bufferLive_24 X0 s.1 s.2) u7 (fun s => X0) (fun s ls => lv_has ls 3 [(1, Value.int s.1), (2, Value.int s.2), (0, Value.ref (b 46))]) (fun s => []) ?_ (fun J24 => ?_)
  · rintro ⟨i1_8, i2_8⟩ H locs ls hf hl Y
    have hl : lv_has ls 3 [(1, Value.int i1_8), (2, Value.int i2_8), (0, Value.ref (b 46))] := hl
    have Y : gy D t b A s.heap X0 X0 H locs := Y
    have hf : f_Mo_bufferLive_24 X0 i1_8 i2_8 = some u7 := hf
    unfold f_Mo_bufferLive_24 at hf
    refine lv_iinc (v := i2_8 + 1) (lv' := [(2, Value.int (i2_8 + 1)), (1, Value.int i1_8), (0, Value.ref (b 46))]) hx hb d_Mo_bufferLive_24 hl (k := 1) rfl (rfl) (by decide) rfl (fun ls hl => ?_)
    refine lv_goto (tgt := 4) hx hb d_Mo_bufferLive_27 (by decide) ?_
    exact hk7 _ _ _ _ hf (lv_sub hl [1, 0, 2] rfl) Y
  unfold f_Mo_bufferLive_4 at hf
  refine lv_iload_n hx hb d_Mo_bufferLive_4 rfl (lv_at hl 1 rfl) ?_
  refine lv_aload_n hx hb d_Mo_bufferLive_5 rfl (lv_at hl 2 rfl) ?_
  refine gy_get (ci := 8) (v := Value.int (X0.I 46 23)) (C := "CommitLedgerModel") (T := F_Mo) (N := 35) hx hb hts i_Mo hown hK Y gF_46 rfl 23 (by decide) kf_Mo_172 rfl d_Mo_bufferLive_6 ?_
  refine lv_icmp_ge (tgt := 30) hx hb d_Mo_bufferLive_9 (by decide) (fun c9_9 => ?_) (fun c9_9 => ?_)
  · replace hf := gp_t c9_9 hf
    refine lv_iload_n hx hb d_Mo_bufferLive_30 rfl (lv_at hl 0 rfl) ?_
    replace hf := gU hf ho7
    exact gy_iret hf hx hb hr hlocks hK Y (Nat.zero_le _) (Nat.zero_le _) d_Mo_bufferLive_31
  · replace hf := gp_f c9_9 hf
    refine lv_aload_n hx hb d_Mo_bufferLive_12 rfl (lv_at hl 2 rfl) ?_
    refine gy_get (ci := 8) (v := Value.ref (b 79)) (C := "CommitLedgerModel") (T := F_Mo) (N := 35) hx hb hts i_Mo hown hK Y gF_46 rfl 22 (by decide) kf_Mo_53 rfl d_Mo_bufferLive_13 ?_
    refine lv_iload_n hx hb d_Mo_bufferLive_16 rfl (lv_at hl 1 rfl) ?_
    refine gy_zald hf hx hb hK Y 1 (fun _ => gF_79) ht1 d_Mo_bufferLive_17 (fun _ hf => ?_)
    refine lv_if_eq (tgt := 24) hx hb d_Mo_bufferLive_18 (by decide) (fun c18_10 => ?_) (fun c18_10 => ?_)
    · replace hf := gp_t c18_10 hf
      exact J24 (i1_7, i2_7) _ _ _ hf (lv_sub hl [0, 1, 2] rfl) Y
    · replace hf := gp_f c18_10 hf
      refine lv_iinc (v := i1_7 + 1) (lv' := [(1, Value.int (i1_7 + 1)), (2, Value.int i2_7), (0, Value.ref (b 46))]) hx hb d_Mo_bufferLive_21 hl (k := 0) rfl (rfl) (by decide) rfl (fun ls hl => ?_)
      exact J24 (i1_7 + 1, i2_7) _ _ _ hf (lv_sub hl [0, 1, 2] rfl) Y

def f_Mo_readersOpen_36 (X : gX) (i1 : Int32) (i3 : Int32) (i4 : Int32) : Option ((Int32 × Int32) ⊕ (gR × gX)) := some (Sum.inl (i1, i4 + 1))
def f_Mo_readersOpen_13 (X : gX) (i3 : Int32) (i1 : Int32) (i4 : Int32) : Option ((Int32 × Int32) ⊕ (gR × gX)) := (if i3 ≤ i4 then gLf (some (gR.i i1, X)) else (if gIn i4 4 then (if (X.I (84 + 8 * gn i4) 10) ≤ (0 : Int32) then f_Mo_readersOpen_36 X i1 i3 i4 else f_Mo_readersOpen_36 X (i1 + 1) i3 i4) else none))
def f_Mo_readersOpen (X0 : gX) : Option (gR × gX) := gI (fun s : Int32 × Int32 => f_Mo_readersOpen_13 X0 4 s.1 s.2) gK (0, 0)
set_option maxHeartbeats 4000000 in
set_option maxRecDepth 100000 in
theorem K_Mo_readersOpen (l : Launch) (htr : l.stackTraces = false) (D : va_G) (tys : List (ClassId × FieldType)) (z sz : Nat) (ws : va_W) (h : gm_M) (hM : gm_S h ws) (t : Nat → ClassId) (ht : gTy t tys) (b : Nat → Nat) (X0 : gX) (hw : gw D t b X0 h) (o : gR × gX) (hf : f_Mo_readersOpen X0 = some o) : gx_Met l y_Mo_readersOpen [Cond.code y_Mo_readersOpen b_Mo_readersOpen 6 (some .int)] { frames := 1, cells := 0, slots := 0, locals := 12 } (gx_P z sz D classes tys ws [Value.ref (b 46)]) (gx_Q D classes tys (va_A ws sz) (gPo D t b X0 o)) (0) (0) (va_A ws sz) := by
  refine gx_ofW (cc := b_Mo_readersOpen) (maxL := 6) (ret := (some .int)) (by decide) rfl ?_
  intro p e s m args below meth c s₁ B hml hv
  obtain ⟨rfl, hsz, hz, hP, hK, hD0, hY⟩ := hv
  have hx := B.exec
  have hb := B.bytes
  have hr := B.returns
  have hts := hY.hts (#[Value.ref (b 46)] : Array Value)
  have hown : s.vm.findClass "CommitLedgerModel" = some m.cls := findClass_of_methodNamed B.named
  have hlocks := B.notSynchronized
  subst hsz
  have hAz := gx_az hD0 hz
  have hD := hD0.self (sz := s.heap.size)
  have hA : ∀ q : Nat, s.heap.size ≤ q → va_A ws s.heap.size q := fun q h => Or.inr h
  generalize va_A ws s.heap.size = A at hD hA hAz ⊢
  have Y : gy D t b A s.heap X0 X0 s.heap [] := ⟨h, ⟨ws, hM, hP, hD, va_S.rf⟩, hw, gEq.rf⟩
  clear hP hD hM hD0 hw
  obtain ⟨ht0, ht1, ht2, ht3, ht4, ht5, ht6, ht7, ht8⟩ := id ht
  have hl := lv_entry ([Value.ref (b 46)]) (n := 6) (Nat.le_of_ble_eq_true rfl)
  rw [lg_entry_eq]
  generalize (lg_sl ([Value.ref (b 46)]) ++ List.replicate (6 - (lg_sl ([Value.ref (b 46)])).length) Slot.unset).toArray = ls at hl ⊢
  have hl : lv_has ls 6 [(0, Value.ref (b 46))] := hl
  unfold f_Mo_readersOpen at hf
  refine lv_iconst (v := 0) hx hb d_Mo_readersOpen_0 (by decide) ?_
  refine lv_istore_n (lv' := [(1, Value.int 0), (0, Value.ref (b 46))]) hx hb d_Mo_readersOpen_1 rfl hl (by decide) rfl (fun ls hl => ?_)
  refine lv_aload_n hx hb d_Mo_readersOpen_2 rfl (lv_at hl 1 rfl) ?_
  refine gy_get (ci := 8) (v := Value.ref (b 83)) (C := "CommitLedgerModel") (T := F_Mo) (N := 35) hx hb hts i_Mo hown hK Y gF_46 rfl 31 (by decide) kf_Mo_76 rfl d_Mo_readersOpen_3 ?_
  refine lv_astore_n (lv' := [(2, Value.ref (b 83)), (1, Value.int 0), (0, Value.ref (b 46))]) hx hb d_Mo_readersOpen_6 rfl hl (by decide) rfl (fun ls hl => ?_)
  refine lv_aload_n hx hb d_Mo_readersOpen_7 rfl (lv_at hl 0 rfl) ?_
  refine gy_alen (v := 4) hx hb hK Y 5 gF_83 ht5 rfl d_Mo_readersOpen_8 ?_
  refine lv_istore_n (lv' := [(3, Value.int 4), (2, Value.ref (b 83)), (1, Value.int 0), (0, Value.ref (b 46))]) hx hb d_Mo_readersOpen_9 rfl hl (by decide) rfl (fun ls hl => ?_)
  refine lv_iconst (v := 0) hx hb d_Mo_readersOpen_10 (by decide) ?_
  refine lv_istore (lv' := [(4, Value.int 0), (3, Value.int 4), (2, Value.ref (b 83)), (1, Value.int 0), (0, Value.ref (b 46))]) hx hb d_Mo_readersOpen_11 hl (by decide) rfl (fun ls hl => ?_)
  refine gy_iter (fun s : Int32 × Int32 => X0) (fun (s : Int32 × Int32) ls => lv_has ls 6 [(1, Value.int s.1), (4, Value.int s.2), (2, Value.ref (b 83)), (3, Value.int 4)]) ?_ gK (0, 0) _ _ _ hf (lv_sub hl [3, 0, 2, 1] rfl) Y
  rintro ⟨i1_9, i4_9⟩ u9 H locs ls hf hl Y hk9 ho9
  have hl : lv_has ls 6 [(1, Value.int i1_9), (4, Value.int i4_9), (2, Value.ref (b 83)), (3, Value.int 4)] := hl
  have Y : gy D t b A s.heap X0 X0 H locs := Y
  have hf : f_Mo_readersOpen_13 X0 4 i1_9 i4_9 = some u9 := hf
  refine gy_cut (pcJ := 36) Y (fun s : Int32 × Int32 => f_Mo_readersOpen_36 X0 s.1 4 s.2) u9 (fun s => X0) (fun s ls => lv_has ls 6 [(1, Value.int s.1), (4, Value.int s.2), (2, Value.ref (b 83)), (3, Value.int 4)]) (fun s => []) ?_ (fun J36 => ?_)
  · rintro ⟨i1_10, i4_10⟩ H locs ls hf hl Y
    have hl : lv_has ls 6 [(1, Value.int i1_10), (4, Value.int i4_10), (2, Value.ref (b 83)), (3, Value.int 4)] := hl
    have Y : gy D t b A s.heap X0 X0 H locs := Y
    have hf : f_Mo_readersOpen_36 X0 i1_10 4 i4_10 = some u9 := hf
    unfold f_Mo_readersOpen_36 at hf
    refine lv_iinc (v := i4_10 + 1) (lv' := [(4, Value.int (i4_10 + 1)), (1, Value.int i1_10), (2, Value.ref (b 83)), (3, Value.int 4)]) hx hb d_Mo_readersOpen_36 hl (k := 1) rfl (rfl) (by decide) rfl (fun ls hl => ?_)
    refine lv_goto (tgt := 13) hx hb d_Mo_readersOpen_39 (by decide) ?_
    exact hk9 _ _ _ _ hf (lv_sub hl [1, 0, 2, 3] rfl) Y
  unfold f_Mo_readersOpen_13 at hf
  refine lv_iload hx hb d_Mo_readersOpen_13 (lv_at hl 1 rfl) ?_
  refine lv_iload_n hx hb d_Mo_readersOpen_15 rfl (lv_at hl 3 rfl) ?_
  refine lv_icmp_ge (tgt := 42) hx hb d_Mo_readersOpen_16 (by decide) (fun c16_11 => ?_) (fun c16_11 => ?_)
  · replace hf := gp_t c16_11 hf
    refine lv_iload_n hx hb d_Mo_readersOpen_42 rfl (lv_at hl 0 rfl) ?_
    replace hf := gU hf ho9
    exact gy_iret hf hx hb hr hlocks hK Y (Nat.zero_le _) (Nat.zero_le _) d_Mo_readersOpen_43
  · replace hf := gp_f c16_11 hf
    refine lv_aload_n hx hb d_Mo_readersOpen_19 rfl (lv_at hl 2 rfl) ?_
    refine lv_iload hx hb d_Mo_readersOpen_20 (lv_at hl 1 rfl) ?_
    refine gy_aalR hf hx hb hK Y 5 gF_83 ht5 d_Mo_readersOpen_22 (fun hi12 hf => ?_)
    refine lv_astore (lv' := [(5, Value.ref (b (84 + 8 * gn i4_9))), (1, Value.int i1_9), (4, Value.int i4_9), (2, Value.ref (b 83)), (3, Value.int 4)]) hx hb d_Mo_readersOpen_23 hl (by decide) rfl (fun ls hl => ?_)
    refine lv_aload hx hb d_Mo_readersOpen_25 (lv_at hl 0 rfl) ?_
    refine gy_get (ci := 9) (v := Value.int (X0.I (84 + 8 * gn i4_9) 10)) (C := "CommitLedgerModel$Version") (T := F_Ve) (N := 11) hx hb hts i_Ve hown hK Y (gF_Ve (gVer_rd hi12)) rfl 10 (by decide) kf_Mo_103 rfl d_Mo_readersOpen_27 ?_
    refine lv_if_le (tgt := 36) hx hb d_Mo_readersOpen_30 (by decide) (fun c30_13 => ?_) (fun c30_13 => ?_)
    · replace hf := gp_t c30_13 hf
      exact J36 (i1_9, i4_9) _ _ _ hf (lv_sub hl [1, 2, 3, 4] rfl) Y
    · replace hf := gp_f c30_13 hf
      refine lv_iinc (v := i1_9 + 1) (lv' := [(1, Value.int (i1_9 + 1)), (5, Value.ref (b (84 + 8 * gn i4_9))), (4, Value.int i4_9), (2, Value.ref (b 83)), (3, Value.int 4)]) hx hb d_Mo_readersOpen_33 hl (k := 1) rfl (rfl) (by decide) rfl (fun ls hl => ?_)
      exact J36 (i1_9 + 1, i4_9) _ _ _ hf (lv_sub hl [0, 2, 3, 4] rfl) Y

def f_Mo_counted_246 (X : gX) : Option (gR × gX) := some (gR.i 0, X)
def f_Mo_counted (X0 : gX) (a1 : Int32) : Option (gR × gX) := (if a1 = (0 : Int32) then some (gR.i (X0.I 46 12), X0) else (if a1 = (1 : Int32) then some (gR.i (X0.I 46 10), X0) else (if a1 = (2 : Int32) then gCi (f_Mo_readersOpen X0) (fun x2 X2 => some (gR.i x2, X2)) else (if a1 = (3 : Int32) then some (gR.i (X0.I 46 20), X0) else (if a1 = (4 : Int32) then (if (X0.I 46 18) = (0 : Int32) then some (gR.i 0, X0) else some (gR.i 1, X0)) else (if a1 = (5 : Int32) then (if (X0.I 46 18) = (0 : Int32) then some (gR.i 0, X0) else some (gR.i (X0.I 46 23), X0)) else (if a1 = (6 : Int32) then (if (X0.I 46 18) = (0 : Int32) then some (gR.i 0, X0) else some (gR.i (X0.I 54 7), X0)) else (if a1 = (7 : Int32) then (if (X0.I 46 18) = (0 : Int32) then some (gR.i 0, X0) else gCi (f_Ve_live X0 54) (fun x7 X7 => gCi (f_Mo_bufferLive X7) (fun x8 X8 => some (gR.i (x7 + x8), X8)))) else (if a1 = (8 : Int32) then (if (X0.I 46 18) = (0 : Int32) then some (gR.i 0, X0) else gCi (f_Ve_docs X0 54) (fun x10 X10 => gCi (f_Ve_live X10 54) (fun x11 X11 => gCi (f_Mo_bufferLive X11) (fun x12 X12 => some (gR.i (((x10 - x11) + (X11.I 46 23)) - x12), X12))))) else (if a1 = (9 : Int32) then (if (X0.I 46 18) = (0 : Int32) then some (gR.i 0, X0) else some (gR.i (X0.I 46 30), X0)) else (if a1 = (10 : Int32) then (if (X0.I 46 18) = (0 : Int32) then some (gR.i 0, X0) else some (gR.i (X0.I 54 8), X0)) else (if a1 = (11 : Int32) then (if (X0.I 46 18) = (0 : Int32) then f_Mo_counted_246 X0 else (if (X0.I 46 19) = (0 : Int32) then f_Mo_counted_246 X0 else some (gR.i 1, X0))) else some (gR.i (-1), X0)))))))))))))
set_option maxHeartbeats 4000000 in
set_option maxRecDepth 100000 in
theorem K_Mo_counted (l : Launch) (htr : l.stackTraces = false) (D : va_G) (tys : List (ClassId × FieldType)) (z sz : Nat) (ws : va_W) (h : gm_M) (hM : gm_S h ws) (t : Nat → ClassId) (ht : gTy t tys) (b : Nat → Nat) (X0 : gX) (hw : gw D t b X0 h) (a1 : Int32) (o : gR × gX) (hf : f_Mo_counted X0 a1 = some o) : gx_Met l y_Mo_counted [Cond.code y_Mo_counted b_Mo_counted 2 (some .int)] { frames := 3, cells := 0, slots := 0, locals := 54 } (gx_P z sz D classes tys ws [Value.ref (b 46), Value.int a1]) (gx_Q D classes tys (va_A ws sz) (gPo D t b X0 o)) (0) (0) (va_A ws sz) := by
  refine gx_ofW (cc := b_Mo_counted) (maxL := 2) (ret := (some .int)) (by decide) rfl ?_
  intro p e s m args below meth c s₁ B hml hv
  obtain ⟨rfl, hsz, hz, hP, hK, hD0, hY⟩ := hv
  have hx := B.exec
  have hb := B.bytes
  have hr := B.returns
  have hts := hY.hts (#[Value.ref (b 46), Value.int a1] : Array Value)
  have hown : s.vm.findClass "CommitLedgerModel" = some m.cls := findClass_of_methodNamed B.named
  have hlocks := B.notSynchronized
  subst hsz
  have hAz := gx_az hD0 hz
  have hD := hD0.self (sz := s.heap.size)
  have hA : ∀ q : Nat, s.heap.size ≤ q → va_A ws s.heap.size q := fun q h => Or.inr h
  generalize va_A ws s.heap.size = A at hD hA hAz ⊢
  have Y : gy D t b A s.heap X0 X0 s.heap [] := ⟨h, ⟨ws, hM, hP, hD, va_S.rf⟩, hw, gEq.rf⟩
  clear hP hD hM hD0 hw
  obtain ⟨ht0, ht1, ht2, ht3, ht4, ht5, ht6, ht7, ht8⟩ := id ht
  have hl := lv_entry ([Value.ref (b 46), Value.int a1]) (n := 2) (Nat.le_of_ble_eq_true rfl)
  rw [lg_entry_eq]
  generalize (lg_sl ([Value.ref (b 46), Value.int a1]) ++ List.replicate (2 - (lg_sl ([Value.ref (b 46), Value.int a1])).length) Slot.unset).toArray = ls at hl ⊢
  have hl : lv_has ls 2 [(0, Value.ref (b 46)), (1, Value.int a1)] := hl
  refine gy_cut (pcJ := 246) Y (fun s : gX => f_Mo_counted_246 s) o (fun s => s) (fun s ls => lv_has ls 2 []) (fun s => []) ?_ (fun J246 => ?_)
  · rintro X17 H locs ls hf hl Y
    have hl : lv_has ls 2 [] := hl
    have Y : gy D t b A s.heap X0 X17 H locs := Y
    have hf : f_Mo_counted_246 X17 = some o := hf
    unfold f_Mo_counted_246 at hf
    refine lv_iconst (v := 0) hx hb d_Mo_counted_246 (by decide) ?_
    exact gy_iret hf hx hb hr hlocks hK Y (Nat.zero_le _) (Nat.zero_le _) d_Mo_counted_247
  unfold f_Mo_counted at hf
  refine lv_iload_n hx hb d_Mo_counted_0 rfl (lv_at hl 1 rfl) ?_
  by_cases s18_0 : a1 = (0 : Int32)
  · replace hf := gp_t s18_0 hf
    refine gx_topi s18_0 ?_
    refine lv_tableIn (off := 63) (tgt := 64) hx hb d_Mo_counted_1 (by decide) (by decide) rfl (by decide) ?_
    refine lv_aload_n hx hb d_Mo_counted_64 rfl (lv_at hl 0 rfl) ?_
    refine gy_get (ci := 8) (v := Value.int (X0.I 46 12)) (C := "CommitLedgerModel") (T := F_Mo) (N := 35) hx hb hts i_Mo hown hK Y gF_46 rfl 12 (by decide) kf_Mo_90 rfl d_Mo_counted_65 ?_
    exact gy_iret hf hx hb hr hlocks hK Y (Nat.zero_le _) (Nat.zero_le _) d_Mo_counted_68
  replace hf := gp_f s18_0 hf
  by_cases s18_1 : a1 = (1 : Int32)
  · replace hf := gp_t s18_1 hf
    refine gx_topi s18_1 ?_
    refine lv_tableIn (off := 68) (tgt := 69) hx hb d_Mo_counted_1 (by decide) (by decide) rfl (by decide) ?_
    refine lv_aload_n hx hb d_Mo_counted_69 rfl (lv_at hl 0 rfl) ?_
    refine gy_get (ci := 8) (v := Value.int (X0.I 46 10)) (C := "CommitLedgerModel") (T := F_Mo) (N := 35) hx hb hts i_Mo hown hK Y gF_46 rfl 10 (by decide) kf_Mo_93 rfl d_Mo_counted_70 ?_
    exact gy_iret hf hx hb hr hlocks hK Y (Nat.zero_le _) (Nat.zero_le _) d_Mo_counted_73
  replace hf := gp_f s18_1 hf
  by_cases s18_2 : a1 = (2 : Int32)
  · replace hf := gp_t s18_2 hf
    refine gx_topi s18_2 ?_
    refine lv_tableIn (off := 73) (tgt := 74) hx hb d_Mo_counted_1 (by decide) (by decide) rfl (by decide) ?_
    refine lv_aload_n hx hb d_Mo_counted_74 rfl (lv_at hl 0 rfl) ?_
    obtain ⟨x19, X19, hF19, hf⟩ := gCi_el hf
    refine gy_callI (rm := { frames := 1, cells := 0, slots := 0, locals := 12 }) (ig := .invokevirtual 266) (av := [Value.ref (b 46)]) Y (fun ws h hS hw => K_Mo_readersOpen l htr D tys z _ ws h hS t ht b X0 hw (gR.i x19, X19) hF19) (gx_invV (As := []) (rest := []) hx hb hown hts km_Mo_266 kI_Mo_readersOpen kV_Mo_readersOpen kc_Mo_readersOpen (by decide) (show (parseMethodDescriptor y_Mo_readersOpen.desc).map (fun d => d.parameters.length) = some 0 by decide +kernel) (gy_recv (ci := 8) hK Y rfl gF_46) rfl rfl d_Mo_counted_75) (gx_cw (z := 0) hts kc_Mo_readersOpen kN_Mo rfl rfl ⟨Nat.le_of_ble_eq_true rfl, Nat.le_of_ble_eq_true rfl⟩) hb hml hz hK hY hAz hA hl.1 (lv_room (Nat.le_of_ble_eq_true rfl)) d_Mo_counted_75 ⟨Nat.zero_le _, Nat.zero_le _⟩ (fun H locs Y => ?_)
    exact gy_iret hf hx hb hr hlocks hK Y (Nat.zero_le _) (Nat.zero_le _) d_Mo_counted_78
  replace hf := gp_f s18_2 hf
  by_cases s18_3 : a1 = (3 : Int32)
  · replace hf := gp_t s18_3 hf
    refine gx_topi s18_3 ?_
    refine lv_tableIn (off := 78) (tgt := 79) hx hb d_Mo_counted_1 (by decide) (by decide) rfl (by decide) ?_
    refine lv_aload_n hx hb d_Mo_counted_79 rfl (lv_at hl 0 rfl) ?_
    refine gy_get (ci := 8) (v := Value.int (X0.I 46 20)) (C := "CommitLedgerModel") (T := F_Mo) (N := 35) hx hb hts i_Mo hown hK Y gF_46 rfl 20 (by decide) kf_Mo_135 rfl d_Mo_counted_80 ?_
    exact gy_iret hf hx hb hr hlocks hK Y (Nat.zero_le _) (Nat.zero_le _) d_Mo_counted_83
  replace hf := gp_f s18_3 hf
  by_cases s18_4 : a1 = (4 : Int32)
  · replace hf := gp_t s18_4 hf
    refine gx_topi s18_4 ?_
    refine lv_tableIn (off := 83) (tgt := 84) hx hb d_Mo_counted_1 (by decide) (by decide) rfl (by decide) ?_
    refine lv_aload_n hx hb d_Mo_counted_84 rfl (lv_at hl 0 rfl) ?_
    refine gy_get (ci := 8) (v := Value.int (X0.I 46 18)) (C := "CommitLedgerModel") (T := F_Mo) (N := 35) hx hb hts i_Mo hown hK Y gF_46 rfl 18 (by decide) kf_Mo_99 rfl d_Mo_counted_85 ?_
    refine lv_if_eq (tgt := 95) hx hb d_Mo_counted_88 (by decide) (fun c88_20 => ?_) (fun c88_20 => ?_)
    · replace hf := gp_t c88_20 hf
      refine lv_iconst (v := 0) hx hb d_Mo_counted_95 (by decide) ?_
      exact gy_iret hf hx hb hr hlocks hK Y (Nat.zero_le _) (Nat.zero_le _) d_Mo_counted_96
    · replace hf := gp_f c88_20 hf
      refine lv_iconst (v := 1) hx hb d_Mo_counted_91 (by decide) ?_
      refine lv_goto (tgt := 96) hx hb d_Mo_counted_92 (by decide) ?_
      exact gy_iret hf hx hb hr hlocks hK Y (Nat.zero_le _) (Nat.zero_le _) d_Mo_counted_96
  replace hf := gp_f s18_4 hf
  by_cases s18_5 : a1 = (5 : Int32)
  · replace hf := gp_t s18_5 hf
    refine gx_topi s18_5 ?_
    refine lv_tableIn (off := 96) (tgt := 97) hx hb d_Mo_counted_1 (by decide) (by decide) rfl (by decide) ?_
    refine lv_aload_n hx hb d_Mo_counted_97 rfl (lv_at hl 0 rfl) ?_
    refine gy_get (ci := 8) (v := Value.int (X0.I 46 18)) (C := "CommitLedgerModel") (T := F_Mo) (N := 35) hx hb hts i_Mo hown hK Y gF_46 rfl 18 (by decide) kf_Mo_99 rfl d_Mo_counted_98 ?_
    refine lv_if_eq (tgt := 111) hx hb d_Mo_counted_101 (by decide) (fun c101_21 => ?_) (fun c101_21 => ?_)
    · replace hf := gp_t c101_21 hf
      refine lv_iconst (v := 0) hx hb d_Mo_counted_111 (by decide) ?_
      exact gy_iret hf hx hb hr hlocks hK Y (Nat.zero_le _) (Nat.zero_le _) d_Mo_counted_112
    · replace hf := gp_f c101_21 hf
      refine lv_aload_n hx hb d_Mo_counted_104 rfl (lv_at hl 0 rfl) ?_
      refine gy_get (ci := 8) (v := Value.int (X0.I 46 23)) (C := "CommitLedgerModel") (T := F_Mo) (N := 35) hx hb hts i_Mo hown hK Y gF_46 rfl 23 (by decide) kf_Mo_172 rfl d_Mo_counted_105 ?_
      refine lv_goto (tgt := 112) hx hb d_Mo_counted_108 (by decide) ?_
      exact gy_iret hf hx hb hr hlocks hK Y (Nat.zero_le _) (Nat.zero_le _) d_Mo_counted_112
  replace hf := gp_f s18_5 hf
  by_cases s18_6 : a1 = (6 : Int32)
  · replace hf := gp_t s18_6 hf
    refine gx_topi s18_6 ?_
    refine lv_tableIn (off := 112) (tgt := 113) hx hb d_Mo_counted_1 (by decide) (by decide) rfl (by decide) ?_
    refine lv_aload_n hx hb d_Mo_counted_113 rfl (lv_at hl 0 rfl) ?_
    refine gy_get (ci := 8) (v := Value.int (X0.I 46 18)) (C := "CommitLedgerModel") (T := F_Mo) (N := 35) hx hb hts i_Mo hown hK Y gF_46 rfl 18 (by decide) kf_Mo_99 rfl d_Mo_counted_114 ?_
    refine lv_if_eq (tgt := 130) hx hb d_Mo_counted_117 (by decide) (fun c117_22 => ?_) (fun c117_22 => ?_)
    · replace hf := gp_t c117_22 hf
      refine lv_iconst (v := 0) hx hb d_Mo_counted_130 (by decide) ?_
      exact gy_iret hf hx hb hr hlocks hK Y (Nat.zero_le _) (Nat.zero_le _) d_Mo_counted_131
    · replace hf := gp_f c117_22 hf
      refine lv_aload_n hx hb d_Mo_counted_120 rfl (lv_at hl 0 rfl) ?_
      refine gy_get (ci := 8) (v := Value.ref (b 54)) (C := "CommitLedgerModel") (T := F_Mo) (N := 35) hx hb hts i_Mo hown hK Y gF_46 rfl 15 (by decide) kf_Mo_40 rfl d_Mo_counted_121 ?_
      refine gy_get (ci := 9) (v := Value.int (X0.I 54 7)) (C := "CommitLedgerModel$Version") (T := F_Ve) (N := 11) hx hb hts i_Ve hown hK Y gF_54 rfl 7 (by decide) kf_Mo_122 rfl d_Mo_counted_124 ?_
      refine lv_goto (tgt := 131) hx hb d_Mo_counted_127 (by decide) ?_
      exact gy_iret hf hx hb hr hlocks hK Y (Nat.zero_le _) (Nat.zero_le _) d_Mo_counted_131
  replace hf := gp_f s18_6 hf
  by_cases s18_7 : a1 = (7 : Int32)
  · replace hf := gp_t s18_7 hf
    refine gx_topi s18_7 ?_
    refine lv_tableIn (off := 131) (tgt := 132) hx hb d_Mo_counted_1 (by decide) (by decide) rfl (by decide) ?_
    refine lv_aload_n hx hb d_Mo_counted_132 rfl (lv_at hl 0 rfl) ?_
    refine gy_get (ci := 8) (v := Value.int (X0.I 46 18)) (C := "CommitLedgerModel") (T := F_Mo) (N := 35) hx hb hts i_Mo hown hK Y gF_46 rfl 18 (by decide) kf_Mo_99 rfl d_Mo_counted_133 ?_
    refine lv_if_eq (tgt := 154) hx hb d_Mo_counted_136 (by decide) (fun c136_23 => ?_) (fun c136_23 => ?_)
    · replace hf := gp_t c136_23 hf
      refine lv_iconst (v := 0) hx hb d_Mo_counted_154 (by decide) ?_
      exact gy_iret hf hx hb hr hlocks hK Y (Nat.zero_le _) (Nat.zero_le _) d_Mo_counted_155
    · replace hf := gp_f c136_23 hf
      refine lv_aload_n hx hb d_Mo_counted_139 rfl (lv_at hl 0 rfl) ?_
      refine gy_get (ci := 8) (v := Value.ref (b 54)) (C := "CommitLedgerModel") (T := F_Mo) (N := 35) hx hb hts i_Mo hown hK Y gF_46 rfl 15 (by decide) kf_Mo_40 rfl d_Mo_counted_140 ?_
      obtain ⟨x24, X24, hF24, hf⟩ := gCi_el hf
      refine gy_callI (rm := { frames := 2, cells := 0, slots := 0, locals := 32 }) (ig := .invokevirtual 261) (av := [Value.ref (b 54)]) Y (fun ws h hS hw => K_Ve_live l htr D tys z _ ws h hS t ht b X0 hw 54 (by decide) (gR.i x24, X24) hF24) (gx_invV (As := []) (rest := []) hx hb hown hts km_Mo_261 kI_Ve_live kV_Ve_live kc_Ve_live (by decide) (show (parseMethodDescriptor y_Ve_live.desc).map (fun d => d.parameters.length) = some 0 by decide +kernel) (gy_recv (ci := 9) hK Y rfl gF_54) rfl rfl d_Mo_counted_143) (gx_cw (z := 0) hts kc_Ve_live kN_Ve rfl rfl ⟨Nat.le_of_ble_eq_true rfl, Nat.le_of_ble_eq_true rfl⟩) hb hml hz hK hY hAz hA hl.1 (lv_room (Nat.le_of_ble_eq_true rfl)) d_Mo_counted_143 ⟨Nat.zero_le _, Nat.zero_le _⟩ (fun H locs Y => ?_)
      refine lv_aload_n hx hb d_Mo_counted_146 rfl (lv_at hl 0 rfl) ?_
      obtain ⟨x25, X25, hF25, hf⟩ := gCi_el hf
      refine gy_callI (rm := { frames := 1, cells := 0, slots := 0, locals := 12 }) (ig := .invokevirtual 269) (av := [Value.ref (b 46)]) Y (fun ws h hS hw => K_Mo_bufferLive l htr D tys z _ ws h hS t ht b X24 hw (gR.i x25, X25) hF25) (gx_invV (As := []) (rest := [Value.int x24]) hx hb hown hts km_Mo_269 kI_Mo_bufferLive kV_Mo_bufferLive kc_Mo_bufferLive (by decide) (show (parseMethodDescriptor y_Mo_bufferLive.desc).map (fun d => d.parameters.length) = some 0 by decide +kernel) (gy_recv (ci := 8) hK Y rfl gF_46) rfl rfl d_Mo_counted_147) (gx_cw (z := 0) hts kc_Mo_bufferLive kN_Mo rfl rfl ⟨Nat.le_of_ble_eq_true rfl, Nat.le_of_ble_eq_true rfl⟩) hb hml hz hK hY hAz hA hl.1 (lv_room (Nat.le_of_ble_eq_true rfl)) d_Mo_counted_147 ⟨Nat.zero_le _, Nat.zero_le _⟩ (fun H locs Y => ?_)
      refine lv_iadd hx hb d_Mo_counted_150 ?_
      refine lv_goto (tgt := 155) hx hb d_Mo_counted_151 (by decide) ?_
      exact gy_iret hf hx hb hr hlocks hK Y (Nat.zero_le _) (Nat.zero_le _) d_Mo_counted_155
  replace hf := gp_f s18_7 hf
  by_cases s18_8 : a1 = (8 : Int32)
  · replace hf := gp_t s18_8 hf
    refine gx_topi s18_8 ?_
    refine lv_tableIn (off := 155) (tgt := 156) hx hb d_Mo_counted_1 (by decide) (by decide) rfl (by decide) ?_
    refine lv_aload_n hx hb d_Mo_counted_156 rfl (lv_at hl 0 rfl) ?_
    refine gy_get (ci := 8) (v := Value.int (X0.I 46 18)) (C := "CommitLedgerModel") (T := F_Mo) (N := 35) hx hb hts i_Mo hown hK Y gF_46 rfl 18 (by decide) kf_Mo_99 rfl d_Mo_counted_157 ?_
    refine lv_if_eq (tgt := 191) hx hb d_Mo_counted_160 (by decide) (fun c160_26 => ?_) (fun c160_26 => ?_)
    · replace hf := gp_t c160_26 hf
      refine lv_iconst (v := 0) hx hb d_Mo_counted_191 (by decide) ?_
      exact gy_iret hf hx hb hr hlocks hK Y (Nat.zero_le _) (Nat.zero_le _) d_Mo_counted_192
    · replace hf := gp_f c160_26 hf
      refine lv_aload_n hx hb d_Mo_counted_163 rfl (lv_at hl 0 rfl) ?_
      refine gy_get (ci := 8) (v := Value.ref (b 54)) (C := "CommitLedgerModel") (T := F_Mo) (N := 35) hx hb hts i_Mo hown hK Y gF_46 rfl 15 (by decide) kf_Mo_40 rfl d_Mo_counted_164 ?_
      obtain ⟨x27, X27, hF27, hf⟩ := gCi_el hf
      refine gy_callI (rm := { frames := 1, cells := 0, slots := 0, locals := 12 }) (ig := .invokevirtual 200) (av := [Value.ref (b 54)]) Y (fun ws h hS hw => K_Ve_docs l htr D tys z _ ws h hS t ht b X0 hw 54 (by decide) (gR.i x27, X27) hF27) (gx_invV (As := []) (rest := []) hx hb hown hts km_Mo_200 kI_Ve_docs kV_Ve_docs kc_Ve_docs (by decide) (show (parseMethodDescriptor y_Ve_docs.desc).map (fun d => d.parameters.length) = some 0 by decide +kernel) (gy_recv (ci := 9) hK Y rfl gF_54) rfl rfl d_Mo_counted_167) (gx_cw (z := 0) hts kc_Ve_docs kN_Ve rfl rfl ⟨Nat.le_of_ble_eq_true rfl, Nat.le_of_ble_eq_true rfl⟩) hb hml hz hK hY hAz hA hl.1 (lv_room (Nat.le_of_ble_eq_true rfl)) d_Mo_counted_167 ⟨Nat.zero_le _, Nat.zero_le _⟩ (fun H locs Y => ?_)
      refine lv_aload_n hx hb d_Mo_counted_170 rfl (lv_at hl 0 rfl) ?_
      refine gy_get (ci := 8) (v := Value.ref (b 54)) (C := "CommitLedgerModel") (T := F_Mo) (N := 35) hx hb hts i_Mo hown hK Y gF_46 rfl 15 (by decide) kf_Mo_40 rfl d_Mo_counted_171 ?_
      obtain ⟨x28, X28, hF28, hf⟩ := gCi_el hf
      refine gy_callI (rm := { frames := 2, cells := 0, slots := 0, locals := 32 }) (ig := .invokevirtual 261) (av := [Value.ref (b 54)]) Y (fun ws h hS hw => K_Ve_live l htr D tys z _ ws h hS t ht b X27 hw 54 (by decide) (gR.i x28, X28) hF28) (gx_invV (As := []) (rest := [Value.int x27]) hx hb hown hts km_Mo_261 kI_Ve_live kV_Ve_live kc_Ve_live (by decide) (show (parseMethodDescriptor y_Ve_live.desc).map (fun d => d.parameters.length) = some 0 by decide +kernel) (gy_recv (ci := 9) hK Y rfl gF_54) rfl rfl d_Mo_counted_174) (gx_cw (z := 0) hts kc_Ve_live kN_Ve rfl rfl ⟨Nat.le_of_ble_eq_true rfl, Nat.le_of_ble_eq_true rfl⟩) hb hml hz hK hY hAz hA hl.1 (lv_room (Nat.le_of_ble_eq_true rfl)) d_Mo_counted_174 ⟨Nat.zero_le _, Nat.zero_le _⟩ (fun H locs Y => ?_)
      refine lv_isub hx hb d_Mo_counted_177 ?_
      refine lv_aload_n hx hb d_Mo_counted_178 rfl (lv_at hl 0 rfl) ?_
      refine gy_get (ci := 8) (v := Value.int (X28.I 46 23)) (C := "CommitLedgerModel") (T := F_Mo) (N := 35) hx hb hts i_Mo hown hK Y gF_46 rfl 23 (by decide) kf_Mo_172 rfl d_Mo_counted_179 ?_
      refine lv_iadd hx hb d_Mo_counted_182 ?_
      refine lv_aload_n hx hb d_Mo_counted_183 rfl (lv_at hl 0 rfl) ?_
      obtain ⟨x29, X29, hF29, hf⟩ := gCi_el hf
      refine gy_callI (rm := { frames := 1, cells := 0, slots := 0, locals := 12 }) (ig := .invokevirtual 269) (av := [Value.ref (b 46)]) Y (fun ws h hS hw => K_Mo_bufferLive l htr D tys z _ ws h hS t ht b X28 hw (gR.i x29, X29) hF29) (gx_invV (As := []) (rest := [Value.int ((x27 - x28) + (X28.I 46 23))]) hx hb hown hts km_Mo_269 kI_Mo_bufferLive kV_Mo_bufferLive kc_Mo_bufferLive (by decide) (show (parseMethodDescriptor y_Mo_bufferLive.desc).map (fun d => d.parameters.length) = some 0 by decide +kernel) (gy_recv (ci := 8) hK Y rfl gF_46) rfl rfl d_Mo_counted_184) (gx_cw (z := 0) hts kc_Mo_bufferLive kN_Mo rfl rfl ⟨Nat.le_of_ble_eq_true rfl, Nat.le_of_ble_eq_true rfl⟩) hb hml hz hK hY hAz hA hl.1 (lv_room (Nat.le_of_ble_eq_true rfl)) d_Mo_counted_184 ⟨Nat.zero_le _, Nat.zero_le _⟩ (fun H locs Y => ?_)
      refine lv_isub hx hb d_Mo_counted_187 ?_
      refine lv_goto (tgt := 192) hx hb d_Mo_counted_188 (by decide) ?_
      exact gy_iret hf hx hb hr hlocks hK Y (Nat.zero_le _) (Nat.zero_le _) d_Mo_counted_192
  replace hf := gp_f s18_8 hf
  by_cases s18_9 : a1 = (9 : Int32)
  · replace hf := gp_t s18_9 hf
    refine gx_topi s18_9 ?_
    refine lv_tableIn (off := 192) (tgt := 193) hx hb d_Mo_counted_1 (by decide) (by decide) rfl (by decide) ?_
    refine lv_aload_n hx hb d_Mo_counted_193 rfl (lv_at hl 0 rfl) ?_
    refine gy_get (ci := 8) (v := Value.int (X0.I 46 18)) (C := "CommitLedgerModel") (T := F_Mo) (N := 35) hx hb hts i_Mo hown hK Y gF_46 rfl 18 (by decide) kf_Mo_99 rfl d_Mo_counted_194 ?_
    refine lv_if_eq (tgt := 207) hx hb d_Mo_counted_197 (by decide) (fun c197_30 => ?_) (fun c197_30 => ?_)
    · replace hf := gp_t c197_30 hf
      refine lv_iconst (v := 0) hx hb d_Mo_counted_207 (by decide) ?_
      exact gy_iret hf hx hb hr hlocks hK Y (Nat.zero_le _) (Nat.zero_le _) d_Mo_counted_208
    · replace hf := gp_f c197_30 hf
      refine lv_aload_n hx hb d_Mo_counted_200 rfl (lv_at hl 0 rfl) ?_
      refine gy_get (ci := 8) (v := Value.int (X0.I 46 30)) (C := "CommitLedgerModel") (T := F_Mo) (N := 35) hx hb hts i_Mo hown hK Y gF_46 rfl 30 (by decide) kf_Mo_106 rfl d_Mo_counted_201 ?_
      refine lv_goto (tgt := 208) hx hb d_Mo_counted_204 (by decide) ?_
      exact gy_iret hf hx hb hr hlocks hK Y (Nat.zero_le _) (Nat.zero_le _) d_Mo_counted_208
  replace hf := gp_f s18_9 hf
  by_cases s18_10 : a1 = (10 : Int32)
  · replace hf := gp_t s18_10 hf
    refine gx_topi s18_10 ?_
    refine lv_tableIn (off := 208) (tgt := 209) hx hb d_Mo_counted_1 (by decide) (by decide) rfl (by decide) ?_
    refine lv_aload_n hx hb d_Mo_counted_209 rfl (lv_at hl 0 rfl) ?_
    refine gy_get (ci := 8) (v := Value.int (X0.I 46 18)) (C := "CommitLedgerModel") (T := F_Mo) (N := 35) hx hb hts i_Mo hown hK Y gF_46 rfl 18 (by decide) kf_Mo_99 rfl d_Mo_counted_210 ?_
    refine lv_if_eq (tgt := 226) hx hb d_Mo_counted_213 (by decide) (fun c213_31 => ?_) (fun c213_31 => ?_)
    · replace hf := gp_t c213_31 hf
      refine lv_iconst (v := 0) hx hb d_Mo_counted_226 (by decide) ?_
      exact gy_iret hf hx hb hr hlocks hK Y (Nat.zero_le _) (Nat.zero_le _) d_Mo_counted_227
    · replace hf := gp_f c213_31 hf
      refine lv_aload_n hx hb d_Mo_counted_216 rfl (lv_at hl 0 rfl) ?_
      refine gy_get (ci := 8) (v := Value.ref (b 54)) (C := "CommitLedgerModel") (T := F_Mo) (N := 35) hx hb hts i_Mo hown hK Y gF_46 rfl 15 (by decide) kf_Mo_40 rfl d_Mo_counted_217 ?_
      refine gy_get (ci := 9) (v := Value.int (X0.I 54 8)) (C := "CommitLedgerModel$Version") (T := F_Ve) (N := 11) hx hb hts i_Ve hown hK Y gF_54 rfl 8 (by decide) kf_Mo_159 rfl d_Mo_counted_220 ?_
      refine lv_goto (tgt := 227) hx hb d_Mo_counted_223 (by decide) ?_
      exact gy_iret hf hx hb hr hlocks hK Y (Nat.zero_le _) (Nat.zero_le _) d_Mo_counted_227
  replace hf := gp_f s18_10 hf
  by_cases s18_11 : a1 = (11 : Int32)
  · replace hf := gp_t s18_11 hf
    refine gx_topi s18_11 ?_
    refine lv_tableIn (off := 227) (tgt := 228) hx hb d_Mo_counted_1 (by decide) (by decide) rfl (by decide) ?_
    refine lv_aload_n hx hb d_Mo_counted_228 rfl (lv_at hl 0 rfl) ?_
    refine gy_get (ci := 8) (v := Value.int (X0.I 46 18)) (C := "CommitLedgerModel") (T := F_Mo) (N := 35) hx hb hts i_Mo hown hK Y gF_46 rfl 18 (by decide) kf_Mo_99 rfl d_Mo_counted_229 ?_
    refine lv_if_eq (tgt := 246) hx hb d_Mo_counted_232 (by decide) (fun c232_32 => ?_) (fun c232_32 => ?_)
    · replace hf := gp_t c232_32 hf
      exact J246 X0 _ _ _ hf (lv_sub hl [] rfl) Y
    · replace hf := gp_f c232_32 hf
      refine lv_aload_n hx hb d_Mo_counted_235 rfl (lv_at hl 0 rfl) ?_
      refine gy_get (ci := 8) (v := Value.int (X0.I 46 19)) (C := "CommitLedgerModel") (T := F_Mo) (N := 35) hx hb hts i_Mo hown hK Y gF_46 rfl 19 (by decide) kf_Mo_109 rfl d_Mo_counted_236 ?_
      refine lv_if_eq (tgt := 246) hx hb d_Mo_counted_239 (by decide) (fun c239_33 => ?_) (fun c239_33 => ?_)
      · replace hf := gp_t c239_33 hf
        exact J246 X0 _ _ _ hf (lv_sub hl [] rfl) Y
      · replace hf := gp_f c239_33 hf
        refine lv_iconst (v := 1) hx hb d_Mo_counted_242 (by decide) ?_
        refine lv_goto (tgt := 247) hx hb d_Mo_counted_243 (by decide) ?_
        exact gy_iret hf hx hb hr hlocks hK Y (Nat.zero_le _) (Nat.zero_le _) d_Mo_counted_247
  replace hf := gp_f s18_11 hf
  refine lv_tableOut (tgt := 248) hx hb d_Mo_counted_1 (by have e0 := lv_neT s18_0 (a := 0) (by decide); have e1 := lv_neT s18_1 (a := 1) (by decide); have e2 := lv_neT s18_2 (a := 2) (by decide); have e3 := lv_neT s18_3 (a := 3) (by decide); have e4 := lv_neT s18_4 (a := 4) (by decide); have e5 := lv_neT s18_5 (a := 5) (by decide); have e6 := lv_neT s18_6 (a := 6) (by decide); have e7 := lv_neT s18_7 (a := 7) (by decide); have e8 := lv_neT s18_8 (a := 8) (by decide); have e9 := lv_neT s18_9 (a := 9) (by decide); have e10 := lv_neT s18_10 (a := 10) (by decide); have e11 := lv_neT s18_11 (a := 11) (by decide); omega) (by decide) ?_
  refine lv_iconst (v := (-1)) hx hb d_Mo_counted_248 (by decide) ?_
  exact gy_iret hf hx hb hr hlocks hK Y (Nat.zero_le _) (Nat.zero_le _) d_Mo_counted_249
