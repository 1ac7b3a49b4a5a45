/-! group E: the WELDS of a RUN of the class, how well they hold -/
def WdI (u z : Nat) (J : mI) : Prop := (∃ w, w ≤ 5 ∧ J u 0 = nI w) ∧ (∃ l, l ≤ 4 ∧ J u 6 = nI l) ∧ (∃ b, b < 16 ∧ J (u + 2) 9 = nI b) ∧ (∀ c, c < 5 → ∃ h, h ≤ 100 ∧ J (u + 4) c = nI h) ∧ (∃ l, l ≤ 4 ∧ J (z + 3) 0 = nI l) ∧ (∃ s, s ≤ 100 ∧ J (z + 3) 4 = nI s) ∧ z + 6 < u
section WDI
variable {u z a k j n k1 k2 k3 m s g : Nat} {I J K : mI} {x c b w v : Int32} {t : Bool}
theorem pt_o (h : ¬ j = a ∨ ¬ n = k) : put I a k x j n = I j n := by
  rcases h with h | h
  · exact pt_m h
  · by_cases e : j = a
    · subst e
      exact pt_f h
    · exact pt_m e
theorem WdI.gg (h : WdI u z J) (e0 : K u 0 = J u 0) (e6 : K u 6 = J u 6) (e9 : K (u + 2) 9 = J (u + 2) 9) (e4 : ∀ c, c < 5 → K (u + 4) c = J (u + 4) c) (ez : ∀ k, K (z + 3) k = J (z + 3) k) : WdI u z K := by
  unfold WdI
  rw [e0, e6, e9, ez 0, ez 4]
  exact ⟨h.1, h.2.1, h.2.2.1, fun c hc => by rw [e4 c hc]; exact h.2.2.2.1 c hc, h.2.2.2.2⟩
theorem WdI.zu (h : WdI u z J) : z + 6 < u := h.2.2.2.2.2.2
theorem WdI.pt (h : WdI u z J) (hk : (¬ a = u ∨ (¬ k = 0 ∧ ¬ k = 6)) ∧ (¬ a = u + 2 ∨ ¬ k = 9) ∧ ¬ a = u + 4 ∧ u ≤ a) : WdI u z (put J a k x) := by
  have hz := h.zu
  exact h.gg (pt_o (by omega)) (pt_o (by omega)) (pt_o (by omega)) (fun c hc => pt_o (by omega)) (fun k => pt_o (by omega))
theorem WdI.ic (h : WdI u z J) (hk : (¬ a = u ∨ (¬ k = 0 ∧ ¬ k = 6)) ∧ (¬ a = u + 2 ∨ ¬ k = 9) ∧ ¬ a = u + 4 ∧ u ≤ a) : WdI u z (inc J a k) := h.pt hk
theorem WdI.dc (h : WdI u z J) (hk : (¬ a = u ∨ (¬ k = 0 ∧ ¬ k = 6)) ∧ (¬ a = u + 2 ∨ ¬ k = 9) ∧ ¬ a = u + 4 ∧ u ≤ a) : WdI u z (dcr J a k) := h.pt hk
theorem WdI.ob (h : WdI u z J) (hk : (¬ a = u ∨ (¬ k = 0 ∧ ¬ k = 6)) ∧ (¬ a = u + 2 ∨ ¬ k = 9) ∧ ¬ a = u + 4 ∧ u ≤ a) : WdI u z (orb J a k c) := h.pt hk
/-- the BLOWS that are left -/
theorem WdI.lf (h : WdI u z J) (hl : ∃ l, l ≤ 4 ∧ x = nI l) : WdI u z (put J u 6 x) := by
  have hz := h.zu
  obtain ⟨h0, _, h9, h4, hb, hs, _⟩ := h
  obtain ⟨l, l1, e⟩ := hl
  refine ⟨?_, ⟨l, l1, pt_s.trans e⟩, ?_, fun c hc => ?_, ?_, ?_, hz⟩
  · rw [pt_f (by decide)]; exact h0
  · rw [pt_m (by omega)]; exact h9
  · rw [pt_m (by omega)]; exact h4 c hc
  · rw [pt_m (by omega)]; exact hb
  · rw [pt_m (by omega)]; exact hs
theorem WdI.hold (h : WdI u z J) {i : Nat} (hv : ∃ q, q ≤ 100 ∧ v = nI q) : WdI u z (put J (u + 4) i v) := by
  have hz := h.zu
  obtain ⟨h0, h6, h9, h4, hb, hs, _⟩ := h
  refine ⟨?_, ?_, ?_, fun c hc => ?_, ?_, ?_, hz⟩
  · rw [pt_m (by omega)]; exact h0
  · rw [pt_m (by omega)]; exact h6
  · rw [pt_m (by omega)]; exact h9
  · by_cases e : c = i
    · subst e
      rw [pt_s]
      exact hv
    · rw [pt_f e]; exact h4 c hc
  · rw [pt_m (by omega)]; exact hb
  · rw [pt_m (by omega)]; exact hs
theorem wdb : ∀ b, b < 16 → ∀ i, i < 4 → nI b ||| 1 <<< (nI i &&& 31) = nI (b ||| 2 ^ i) ∧ b ||| 2 ^ i < 16 := by decide +kernel
theorem WdI.bit (h : WdI u z J) {i : Nat} (hi : i < 4) : WdI u z (orb J (u + 2) 9 (nI i)) := by
  have hz := h.zu
  obtain ⟨h0, h6, ⟨b, b1, eb⟩, h4, hb, hs, _⟩ := h
  unfold orb
  refine ⟨?_, ?_, ⟨b ||| 2 ^ i, (wdb b b1 i hi).2, by rw [pt_s, eb]; exact (wdb b b1 i hi).1⟩, fun c hc => ?_, ?_, ?_, hz⟩
  · rw [pt_m (by omega)]; exact h0
  · rw [pt_m (by omega)]; exact h6
  · rw [pt_m (by omega)]; exact h4 c hc
  · rw [pt_m (by omega)]; exact hb
  · rw [pt_m (by omega)]; exact hs
theorem WdI.use (h : WdI u z J) : WdI u z (useF J u c t) := by
  unfold useF
  split
  · next q =>
    unfold usb at q
    have q := (of_decide_eq_true q).1
    refine WdI.ic ?_ (by omega)
    unfold dcr
    refine h.lf ?_
    obtain ⟨l, l4, e⟩ := h.2.1
    rw [e] at q ⊢
    match l, l4 with
    | 0, _ => exact absurd (by decide) q
    | l + 1, l4 => exact ⟨l, by omega, nI_pred l⟩
  · exact (h.ic (by omega)).ob (by omega)
theorem WdI.los (h : WdI u z J) : WdI u z (losF J u c) := by
  unfold losF
  split
  · exact (h.dc (by omega)).ic (by omega)
  · exact h
theorem WdI.sl (h : WdI u z J) : WdI u z (slF J u) := by
  unfold slF
  split
  · exact h
  · exact h.pt (by omega)
theorem WdI.mv (h : WdI u z J) : WdI u z (mv1 J u c b) := ((h.dc (by omega)).ic (by omega)).ic (by omega)
theorem WdI.mov (h : WdI u z J) : WdI u z (movF J u c b) := by
  unfold movF
  split
  · exact h.mv.ob (by omega)
  · exact h.mv
theorem WdI.tB (h : WdI u z J) : WdI u z (stB J u c b) := by
  unfold stB
  split
  · exact h.sl.ic (by omega)
  · exact h.sl.mov
theorem WdI.tA (h : WdI u z J) : WdI u z (stA J u c b) := by
  unfold stA
  repeat' split
  all_goals first | exact h.ic (by omega) | exact h.tB
theorem WdI.str (h : WdI u z J) : WdI u z (strF J u c b) := by
  unfold strF
  repeat' split
  all_goals first | exact h.ic (by omega) | exact h.use.tA | exact h.use
theorem WdI.sho (h : WdI u z J) : WdI u z (shoF J u c) := by
  unfold shoF
  repeat' split
  all_goals first | exact h.ic (by omega) | exact h.use.ob (by omega) | exact h.use
theorem WdI.pn1 (h : WdI u z J) : WdI u z (pu1 J u c) := by
  unfold pu1
  split
  · exact (h.ob (by omega)).los
  · exact h
theorem WdI.pun (h : WdI u z J) : WdI u z (punF J u c) := by
  unfold punF
  repeat' split
  all_goals first | exact h.ic (by omega) | exact (h.use.ic (by omega)).pn1 | exact h.use
theorem wdv {l s : Nat} (hl : l ≤ 4) (hs : s ≤ 100) : ∃ q, q ≤ 100 ∧ (if 30 + 10 * nI l + nI s < 100 then 30 + 10 * nI l + nI s else (100 : Int32)) = nI q := by
  by_cases g : 30 + 10 * nI l + nI s < (100 : Int32)
  · rw [if_pos g]
    have e : 30 + 10 * nI l + nI s = nI (30 + 10 * l + s) := by rw [show (30 : Int32) = nI 30 from rfl, show (10 : Int32) = nI 10 from rfl, pk_mul, nI_add, nI_add]
    have q : 30 + 10 * l + s < 2 ^ 31 := by omega
    rw [e, show (100 : Int32) = nI 100 from rfl] at g
    exact ⟨_, Nat.le_of_lt ((nI_ltI q (by decide)).mp g), e⟩
  · exact ⟨100, Nat.le_refl _, if_neg g⟩
theorem WdI.wel (h : WdI u z J) {s : Nat} (hs : s ≤ 100) : WdI u z (welF J u c (nI s)) := by
  unfold welF
  split
  · next g1 =>
    split
    · next g2 =>
      split
      · obtain ⟨w, w5, ew⟩ := h.1
        obtain ⟨a1, a2, a3⟩ : ¬ c < 0 ∧ c < J u 0 ∧ c < 5 := of_decide_eq_true g1
        obtain ⟨b1, b2, b3⟩ : ¬ c + 1 < 0 ∧ c + 1 < J u 0 ∧ c + 1 < 5 := of_decide_eq_true g2
        obtain ⟨i, hi, rfl⟩ := lt_nI (n := 5) (by decide) a1 a3
        rw [show (1 : Int32) = nI 1 from rfl, nI_add, show (5 : Int32) = nI 5 from rfl] at b3
        have hi' := (nI_ltI (by omega) (by decide)).mp b3
        have k0 := h.use (c := nI i) (t := whB J u (nI i))
        have k1 := k0.bit (i := i) (by omega)
        unfold we1
        refine k1.hold ?_
        obtain ⟨l, l4, e⟩ := k1.2.1
        rw [e]
        exact wdv l4 hs
      · exact h.use
    · exact h.ic (by omega)
  · exact h.ic (by omega)
theorem WdI.fir (h : WdI u z J) : WdI u z (firF J u z c) := by
  unfold firF
  repeat' split
  · exact h
  · unfold fi1
    refine WdI.los ?_
    have q : WdI u z (put (inc J (u + 2) 0) u 5 c) := (h.ic (by omega)).pt (by omega)
    exact q.lf q.2.2.2.2.1
  · exact h.ic (by omega)
theorem WdI.pu (h : WdI u z J) : WdI u z (puF J u c) := by
  unfold puF
  split
  · exact (h.pt (by omega)).pt (by omega)
  · exact h
theorem WdI.po (h : WdI u z J) : WdI u z (poF J u) := by
  unfold poF
  split
  · exact h
  · exact h.pt (by omega)
theorem WdI.st (h : WdI u z J) : WdI u z (stF J u w) := by
  unfold stF
  repeat' split
  all_goals first | exact h.po.po.pu | exact h.po.pu | exact h.pu
theorem WdI.rk : ∀ (N : Nat) (i : Int32) (J : mI), WdI u z J → WdI u z (rkF u k m N i J)
  | 0, _, _, h => h
  | N + 1, _, _, h => WdI.rk N _ _ h.st
theorem WdI.re (h : WdI u z J) : WdI u z (reF J u k2 k3 m s) := WdI.rk _ _ _ (h.pt (by omega))
theorem WdI.pa (h : WdI u z J) : WdI u z (paF J u z n k1 s x).1 := by
  obtain ⟨q, q1, eq⟩ := h.2.2.2.2.2.1
  unfold paF
  rw [eq]
  repeat' split
  all_goals first | exact h | exact h.fir | exact h.fir.pt (by omega) | exact h.str | exact h.sho | exact h.pun | exact h.wel q1
theorem WdI.pas (h : WdI u z J) : WdI u z (pasF J u z n k1 k2 k3 m w x).1 := by
  unfold pasF
  split
  · exact h.re.pa
  · exact h
theorem WdI.be {w : Nat} (hz : z + 6 < u) (e0 : J z 0 = nI w) (w5 : w ≤ 5) (hb : ∃ l, l ≤ 4 ∧ J (z + 3) 0 = nI l) (hs : ∃ s, s ≤ 100 ∧ J (z + 3) 4 = nI s) : WdI u z (begF J u z) := by
  have ez : ∀ k, begF J u z (z + 3) k = J (z + 3) k := fun k => by
    unfold begF be1 filF cpyF
    rw [pt_n (show ¬ z + 3 = u by omega), pt_n (show ¬ z + 3 = u by omega), uu_n _ _ (show z + 3 ≠ u + 4 by omega), uu_n _ _ (show z + 3 ≠ u + 3 by omega), pt_n (show ¬ z + 3 = u + 2 by omega), uu_n _ _ (show z + 3 ≠ u + 2 by omega), uu_n _ _ (show z + 3 ≠ u + 1 by omega), pt_n (show ¬ z + 3 = u by omega)]
  refine ⟨⟨w, w5, ?_⟩, ⟨0, by decide, ?_⟩, ⟨0, by decide, ?_⟩, fun c hc => ⟨0, by decide, ?_⟩, by rw [ez]; exact hb, by rw [ez]; exact hs, hz⟩
  · have e : begF J u z u 0 = (if J z 0 < 5 then J z 0 else 5) := by
      unfold begF be1 filF cpyF
      rw [pt_f (by decide), pt_f (by decide), uu_n _ _ (show u ≠ u + 4 by omega), uu_n _ _ (show u ≠ u + 3 by omega), pt_n (show ¬ u = u + 2 by omega), uu_n _ _ (show u ≠ u + 2 by omega), uu_n _ _ (show u ≠ u + 1 by omega), pt_s]
    rw [e, e0]
    by_cases q : w = 5
    · rw [q]
      exact if_neg (by decide)
    · exact if_pos (nI_lt (a := w) (b := 5) (by omega) (by decide))
  · unfold begF
    rw [pt_s]
    rfl
  · unfold begF be1 filF cpyF
    rw [pt_n (show ¬ u + 2 = u by omega), pt_n (show ¬ u + 2 = u by omega), uu_n _ _ (show u + 2 ≠ u + 4 by omega), uu_n _ _ (show u + 2 ≠ u + 3 by omega), pt_f (by decide), uu_s, if_pos (by decide)]
    rfl
  · unfold begF filF
    rw [pt_n (show ¬ u + 4 = u by omega), pt_n (show ¬ u + 4 = u by omega), uu_s, if_pos hc]
    rfl
theorem WdI.cr : ∀ (N g : Nat) (a : Int32) (J : mI), WdI u z J → WdI u z (crF u z n k1 k2 k3 m w N g a J).1
  | 0, _, _, _, h => h
  | N + 1, g, a, J, h => by
    unfold crF
    split
    · exact WdI.cr N _ _ _ h.pas
    · exact h
theorem WdI.ca {q : Nat} (hz : z + 6 < u) (e0 : J z 0 = nI q) (w5 : q ≤ 5) (hb : ∃ l, l ≤ 4 ∧ J (z + 3) 0 = nI l) (hs : ∃ s, s ≤ 100 ∧ J (z + 3) 4 = nI s) : WdI u z (finF (carF J u z n k1 k2 k3 m w).1 u z) := by
  unfold finF carF
  exact ((WdI.cr _ _ _ _ (WdI.be hz e0 w5 hb hs)).pt (by omega)).pt (by omega)
end WDI
