/-! group G (p25): the first of the soonest rows; the next row -/
section GS
variable {mm nd : Nat → Nat} {n F : Nat}
theorem okr_ap : ∀ (a b σ : List Nat), Okr nd σ (a ++ b) ↔ Okr nd σ a ∧ Okr nd (a.reverse ++ σ) b
  | [], _, _ => ⟨fun h => ⟨trivial, h⟩, fun h => h.2⟩
  | p :: a, b, σ => by
    show (Rdy nd σ p ∧ Okr nd (p :: σ) (a ++ b)) ↔ (Rdy nd σ p ∧ Okr nd (p :: σ) a) ∧ Okr nd ((p :: a).reverse ++ σ) b
    rw [okr_ap a b (p :: σ), List.reverse_cons, List.append_assoc]
    exact ⟨fun h => ⟨⟨h.1, h.2.1⟩, h.2.2⟩, fun h => ⟨h.1.1, h.1.2, h.2⟩⟩
theorem okr_cg : ∀ (r : List Nat) {σ τ : List Nat}, (∀ x, x ∈ σ → x ∈ τ) → Okr nd σ r → Okr nd τ r
  | [], _, _, _, _ => trivial
  | p :: r, σ, τ, h, g => ⟨g.1.elim Or.inl (fun z => Or.inr (h _ z)), okr_cg r (fun x hx => by
    rcases List.mem_cons.mp hx with e | hx
    · rw [e]; exact List.mem_cons_self ..
    · exact List.mem_cons_of_mem _ (h x hx)) g.2⟩
theorem ltL_ap {x y : Nat} {r s : List Nat} (h : x < y) : ∀ a : List Nat, ltL (a ++ x :: r) (a ++ y :: s)
  | [] => Or.inl h
  | _ :: a => Or.inr ⟨rfl, ltL_ap h a⟩
theorem vdr_nd {r : List Nat} (h : Vdr nd n r) : r.Nodup := h.1.nodup_iff.mpr List.nodup_range
theorem vdr_lt {r : List Nat} (h : Vdr nd n r) {p : Nat} : p ∈ r ↔ p < n := h.1.mem_iff.trans List.mem_range
theorem Sti.of {a r : List Nat} (h : Vdr nd n (a ++ r)) (hF : 0 < F) : Sti mm nd F a.reverse (rnl mm nd a (gs0 F)) := by
  have d := List.nodup_append.mp (vdr_nd h)
  have q := (Sti.rn a (Sti.i0 (mm := mm) (nd := nd) (F := F)) hF (fun _ _ z => by cases z) d.1 ((okr_ap a r []).mp h.2).1).1
  rw [List.append_nil] at q
  exact q
/-- who waits behind one that may not begin ahead of it is not tried again -/
theorem noskip {π ρ : List Nat} {b i : Nat} (hF : 0 < F) (hm : ∀ p, p < n → 0 < mm p) (hl : ∀ p, p < n → nd p ≤ p) (h : FBr mm nd n F (π ++ b :: i :: ρ)) (hi : i < b) : ¬ hdl (rnl mm nd (π ++ [b]) (gs0 F)).1 = hdl (rnl mm nd π (gs0 F)).1 := by
  intro ht
  obtain ⟨hv, _, hf⟩ := h
  have S := Sti.of (mm := mm) (F := F) (a := π) (r := b :: i :: ρ) hv hF
  have bn : b < n := (vdr_lt hv).mp (List.mem_append_right _ (List.mem_cons_self ..))
  have iN : i < n := (vdr_lt hv).mp (List.mem_append_right _ (List.mem_cons_of_mem _ (List.mem_cons_self ..)))
  have d := List.nodup_append.mp (vdr_nd hv)
  have o := (okr_ap π (b :: i :: ρ) []).mp hv.2
  rw [List.append_nil] at o
  obtain ⟨o1, ob, oi, oρ⟩ := o
  have iπ : ¬ i ∈ π := fun z => d.2.2 i z i (List.mem_cons_of_mem _ (List.mem_cons_self ..)) rfl
  have nb : ¬ nd b = i + 1 := fun z => by
    rcases ob with e | e
    · omega
    · rw [z] at e
      exact iπ (List.mem_reverse.mp e)
  have ni : ¬ nd i = b + 1 := by have := hl i iN; omega
  have ri : Rdy nd π.reverse i := by
    rcases oi with e | e
    · exact Or.inl e
    · rcases List.mem_cons.mp e with e | e
      · by_cases z : nd i = 0
        · exact Or.inl z
        · exact absurd (show nd i = b + 1 by omega) ni
      · exact Or.inr e
  rw [rnl_ap] at ht
  have sw := swp2 (mm := mm) (nd := nd) (s := rnl mm nd π (gs0 F)) (b := b) (i := i) S.1 ⟨hm b bn, hm i iN⟩ (by omega) ni nb ht (by rw [S.2.1]; exact hF)
  have vS : Vdr nd n (π ++ i :: b :: ρ) := by
    refine ⟨(List.Perm.append_left π (List.Perm.swap b i ρ)).trans hv.1, (okr_ap π _ []).mpr ?_⟩
    rw [List.append_nil]
    refine ⟨o1, ri, ob.elim Or.inl (fun z => Or.inr (List.mem_cons_of_mem _ z)), okr_cg ρ (fun x hx => ?_) oρ⟩
    rcases List.mem_cons.mp hx with e | hx
    · rw [e]; exact List.mem_cons_of_mem _ (List.mem_cons_self ..)
    · rcases List.mem_cons.mp hx with e | hx
      · rw [e]; exact List.mem_cons_self ..
      · exact List.mem_cons_of_mem _ (List.mem_cons_of_mem _ hx)
  have lt := hf _ vS (ltL_ap hi π)
  unfold lst at lt
  rw [rnl_ap, rnl_ap] at lt
  have e : rnl mm nd (b :: i :: ρ) (rnl mm nd π (gs0 F)) = rnl mm nd (i :: b :: ρ) (rnl mm nd π (gs0 F)) := by
    show rnl mm nd ρ (gpl mm nd i (gpl mm nd b (rnl mm nd π (gs0 F)))) = rnl mm nd ρ (gpl mm nd b (gpl mm nd i (rnl mm nd π (gs0 F))))
    rw [sw]
  rw [e] at lt
  omega
/-- the last of all rows, the first -/
theorem ltL_max : ∀ {β r : List Nat}, β.Pairwise (fun x y => y < x) → r.Perm β → ¬ ltL β r
  | [], _, _, hp, h => by
    have := hp.eq_nil
    subst this
    exact h
  | b :: β, [], _, _, h => h
  | b :: β, z :: zs, hd, hp, h => by
    obtain ⟨d1, d2⟩ := List.pairwise_cons.mp hd
    rcases h with h | ⟨e, h⟩
    · have hz : z ∈ b :: β := hp.mem_iff.mp (List.mem_cons_self ..)
      rcases List.mem_cons.mp hz with e | hz
      · omega
      · have := d1 z hz
        omega
    · subst e
      exact ltL_max d2 hp.cons_inv h
theorem ltL_min : ∀ {β r : List Nat}, β.Pairwise (fun x y => x < y) → r.Perm β → β = r ∨ ltL β r
  | [], r, _, hp => Or.inl hp.eq_nil.symm
  | b :: β, [], _, hp => absurd hp.symm.eq_nil (by simp)
  | b :: β, z :: zs, hd, hp => by
    obtain ⟨d1, d2⟩ := List.pairwise_cons.mp hd
    have hz : z ∈ b :: β := hp.mem_iff.mp (List.mem_cons_self ..)
    rcases List.mem_cons.mp hz with e | hz
    · subst e
      rcases ltL_min d2 hp.cons_inv with e | h
      · exact Or.inl (by rw [e])
      · exact Or.inr (Or.inr ⟨rfl, h⟩)
    · exact Or.inr (Or.inl (d1 z hz))
/-- the next row is the next one -/
theorem ltL_nx {x y : Nat} {β1 β2 : List Nat} (hd : (β1 ++ y :: β2).Pairwise (fun x y => y < x)) (hxy : x < y) (h2 : ∀ z, z ∈ β2 → z < x) : ∀ (α : List Nat) {r : List Nat}, r.Perm (α ++ x :: (β1 ++ y :: β2)) → ltL (α ++ x :: (β1 ++ y :: β2)) r → α ++ y :: (β2.reverse ++ x :: β1.reverse) = r ∨ ltL (α ++ y :: (β2.reverse ++ x :: β1.reverse)) r
  | a :: α, [], _, h => h.elim
  | a :: α, z :: zs, hp, h => by
    rcases h with h | ⟨e, h⟩
    · exact Or.inr (Or.inl h)
    · subst e
      rcases ltL_nx hd hxy h2 α hp.cons_inv h with e | h
      · exact Or.inl (congrArg (List.cons a) e)
      · exact Or.inr (Or.inr ⟨rfl, h⟩)
  | [], [], _, h => h.elim
  | [], z :: zs, hp, h => by
    have hp' : (z :: zs).Perm (x :: (β1 ++ y :: β2)) := hp
    rcases h with h | ⟨e, h⟩
    · have hz : z ∈ x :: (β1 ++ y :: β2) := hp'.mem_iff.mp (List.mem_cons_self ..)
      obtain ⟨p1, p2, p3⟩ := List.pairwise_append.mp hd
      obtain ⟨q1, q2⟩ := List.pairwise_cons.mp p2
      rcases List.mem_cons.mp hz with e | hz
      · omega
      rcases List.mem_append.mp hz with hz | hz
      · exact Or.inr (Or.inl (p3 z hz y (List.mem_cons_self ..)))
      rcases List.mem_cons.mp hz with e | hz
      · subst e
        have pz : zs.Perm (x :: (β1 ++ β2)) := by
          have k1 : (z :: zs).Perm (z :: x :: (β1 ++ β2)) := hp'.trans ((List.Perm.cons x List.perm_middle).trans (List.Perm.swap z x _))
          exact k1.cons_inv
        have pa : (β2.reverse ++ x :: β1.reverse).Perm (x :: (β1 ++ β2)) := by
          refine List.perm_middle.trans (List.Perm.cons x ?_)
          exact (List.Perm.append (List.reverse_perm β2) (List.reverse_perm β1)).trans List.perm_append_comm
        have sa : (β2.reverse ++ x :: β1.reverse).Pairwise (fun x y => x < y) := by
          refine List.pairwise_append.mpr ⟨List.pairwise_reverse.mpr q2, List.pairwise_cons.mpr ⟨fun w hw => ?_, List.pairwise_reverse.mpr p1⟩, fun u hu w hw => ?_⟩
          · have := p3 w (List.mem_reverse.mp hw) z (List.mem_cons_self ..)
            omega
          · have u1 := h2 u (List.mem_reverse.mp hu)
            rcases List.mem_cons.mp hw with e | hw
            · omega
            · have := p3 w (List.mem_reverse.mp hw) z (List.mem_cons_self ..)
              omega
        rcases ltL_min sa (pz.trans pa.symm) with e | h
        · exact Or.inl (congrArg (List.cons z) e)
        · exact Or.inr (Or.inr ⟨rfl, h⟩)
      · have := h2 z hz
        omega
    · subst e
      exact absurd h (ltL_max hd hp'.cons_inv)
theorem ltL_ap2 {x y : Nat} {r s : List Nat} (h : x < y) (α : List Nat) : ltL (α ++ x :: r) (α ++ y :: s) := ltL_ap h α
theorem ltL_tr : ∀ {a b c : List Nat}, ltL a b → ltL b c → ltL a c
  | [], _, _, h, _ => h.elim
  | _ :: _, [], _, h, _ => h.elim
  | _ :: _, _ :: _, [], _, g => g.elim
  | x :: a, y :: b, z :: c, h, g => by
    rcases h with h | ⟨e, h⟩ <;> rcases g with g | ⟨e2, g⟩
    · exact Or.inl (by omega)
    · exact Or.inl (by omega)
    · exact Or.inl (by omega)
    · exact Or.inr ⟨e.trans e2, ltL_tr h g⟩
theorem ltL_ir : ∀ {a : List Nat}, ¬ ltL a a
  | [], h => h
  | _ :: _, h => by
    rcases h with h | ⟨_, h⟩
    · omega
    · exact ltL_ir h
end GS
