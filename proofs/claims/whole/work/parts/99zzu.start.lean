/-! THE PURE SIDE: the start -/
def A00 : zA := (gx_r46, fun _ _ => 0, [], fun _ => ([], fun _ => false, 0, 0, 0), [], (fun _ => [], fun _ _ => false, fun _ => 0, fun _ => 0, fun _ => 0, fun _ => 0))
theorem X00_I {a : Nat} (h1 : a ≠ 0) (h2 : a ≠ 46) : X00.I a = fun _ => 0 := by
  show (if a = 0 then gx_r0 else if a = 46 then gx_r46 else fun _ => 0) = _
  rw [if_neg h1, if_neg h2]
theorem gVer_ne {n b : Nat} (hn : gVer n = true) (hb : n ≤ b) (hb2 : b ≤ n + 7) : b ≠ 0 ∧ b ≠ 46 := by
  have := gVer_range hn
  omega
theorem RM_00 : RM X00 A00 := by
  refine ⟨fun j _ _ _ => rfl, ⟨X00_I (by decide) (by decide), X00_I (by decide) (by decide), X00_I (by decide) (by decide)⟩, ⟨rfl, hl_nil, hl_nil, hl_nil⟩, fun n hn => ?_, fun k hk => absurd hk (by show ¬ k < 0; omega), ⟨fun i hi => ?_, fun i j hi hj e => ?_⟩, fun i m hm => absurd hm (by show ¬ ([] : List zM)[i]? = some m; simp)⟩
  · have e : ∀ b, n ≤ b → b ≤ n + 7 → X00.I b = fun _ => 0 := fun b b1 b2 => X00_I (gVer_ne hn b1 b2).1 (gVer_ne hn b1 b2).2
    refine ⟨⟨?_, ?_, ?_, ?_⟩, ⟨hl_nil, hl_nil, hl_nil⟩, fun s hs => ?_, hl_nil, hl_nil, hl_nil⟩
    · rw [e n (by omega) (by omega)]; rfl
    · rw [e n (by omega) (by omega)]; rfl
    · rw [e n (by omega) (by omega)]; rfl
    · rw [e n (by omega) (by omega)]; rfl
    · rw [e (n + 3) (by omega) (by omega)]
      have : s = 0 := by
        have hs' : s ≤ 0 := hs
        omega
      rw [this]
      rfl
  · have : i = 0 ∨ i = 1 ∨ i = 2 ∨ i = 3 := by omega
    rcases this with rfl | rfl | rfl | rfl <;> exact ⟨_, rfl, rfl⟩
  · have hi' : i = 0 ∨ i = 1 ∨ i = 2 ∨ i = 3 := by omega
    have hj' : j = 0 ∨ j = 1 ∨ j = 2 ∨ j = 3 := by omega
    rcases hi' with rfl | rfl | rfl | rfl <;> rcases hj' with rfl | rfl | rfl | rfl <;> first | rfl | exact absurd e (by decide)
theorem RC_00 : RC X00 A00 id 0 := by
  refine ⟨?_, fun q => absurd rfl q, ⟨X00_I (by decide) (by decide), X00_I (by decide) (by decide), X00_I (by decide) (by decide)⟩, ⟨[], ⟨by rw [X00_I (by decide) (by decide)]; rfl, by rw [X00_I (by decide) (by decide)]; rfl, by show 0 ≤ _; omega, by show 0 ≤ _; omega⟩, ⟨hl_nil, hl_nil⟩, ⟨fun i => rfl, fun i => rfl⟩, ⟨List.nodup_nil, fun n hn => absurd hn (by show ¬ n ∈ ([] : List Nat); simp), rfl⟩, fun f hf => absurd hf (by show ¬ f ∈ ([] : List zF); simp)⟩, ⟨⟨fun q => absurd rfl q, rfl⟩, ⟨12, 16, Or.inl ⟨rfl, rfl⟩, rfl, rfl, fun q => absurd (by show gx_r46 20 ≤ 0; decide) q, fun q => absurd rfl q⟩, fun i hi => Or.inl ⟨rfl, by rw [X00_I (by omega) (by omega)]⟩⟩, ⟨⟨fun i hi => ?_, fun i j hi hj e => ?_⟩, fun i m _ hm => absurd hm (by show ¬ ([] : List zM)[i]? = some m; simp)⟩, ?_⟩
  · intro p hp
    unfold cTab at hp
    simp only [List.mem_cons, List.mem_nil_iff, or_false] at hp
    rcases hp with rfl | rfl | rfl | rfl | rfl | rfl | rfl | rfl | rfl | rfl | rfl | rfl | rfl <;> rfl
  · have : i = 0 ∨ i = 1 ∨ i = 2 ∨ i = 3 := by omega
    rcases this with rfl | rfl | rfl | rfl <;> exact ⟨_, rfl, rfl⟩
  · have hi' : i = 0 ∨ i = 1 ∨ i = 2 ∨ i = 3 := by omega
    have hj' : j = 0 ∨ j = 1 ∨ j = 2 ∨ j = 3 := by omega
    rcases hi' with rfl | rfl | rfl | rfl <;> rcases hj' with rfl | rfl | rfl | rfl <;> first | rfl | exact absurd e (by decide)
  · have e1 : X00.N = 0 := rfl
    have e2 : ∀ a, X00.L a = 0 := fun _ => rfl
    have e3 : X00.cc = 122 := rfl
    have e4 : X00.ss = 677754 := rfl
    unfold RR
    rw [e1, e2, e2, e3, e4]
    omega
theorem Inv_00 : Inv A00 0 := by
  have d0 : dc A00 = 0 := rfl
  have b0 : bf A00 = 0 := rfl
  have w0 : wr A00 = 0 := rfl
  refine ⟨⟨⟨⟨rfl, by rw [d0]; omega⟩, ⟨rfl, by rw [b0]; omega⟩, ⟨rfl, by rw [w0]; omega⟩⟩, ⟨⟨rfl, by show 2 ≤ 4; omega, by show 4 ≤ 64; omega⟩, ⟨rfl, by show 0 ≤ 0; omega⟩, ⟨rfl, by show 0 ≤ 0; omega⟩, ⟨rfl, by show 0 ≤ 0; omega⟩⟩, ⟨rfl, by show 0 ≤ 4; omega⟩, ⟨Or.inl rfl, Or.inl rfl, Or.inl rfl⟩⟩, ⟨⟨by show 0 ≤ 60000; omega, List.Pairwise.nil, fun f hf => absurd hf (by show ¬ f ∈ ([] : List zF); simp)⟩, fun f hf => absurd hf (by show ¬ f ∈ ([] : List zF); simp), by show 0 ≤ 41000; omega⟩, fun n hn hn' => ⟨⟨fun x hx => absurd hx (by show ¬ x ∈ ([] : List zS); simp), List.Pairwise.nil⟩, fun e he => by cases he⟩, fun q => absurd rfl q, ⟨⟨fun q => absurd (by show gx_r46 20 ≤ 0; decide) q, fun q => absurd rfl q, fun q => absurd rfl q, fun m hm => absurd hm (by show ¬ m ∈ ([] : List zM); simp), fun i hi q => absurd (by show (0 : Int32) ≤ 0; decide) q⟩, fun q => absurd (by show gx_r46 20 ≤ 0; decide) q, fun q => absurd rfl q⟩, ⟨fun _ => ⟨rfl, rfl⟩, fun q => absurd rfl q, fun _ f hf => absurd hf (by show ¬ f ∈ ([] : List zF); simp), fun i hi => ⟨rfl, by show 0 ≤ 0; omega⟩⟩⟩
theorem JJ_00 : JJ X00 0 := ⟨A00, id, RM_00, RC_00, Inv_00, rfl, KK_cl rfl⟩
