/-! the longs that a call leaves as they were -/
def LfS (S : mS) (L : mL) (S' : mS) (L' : mL) : Prop := S.1 ≤ S'.1 ∧ (∀ a, a < S.1 → S'.2.2.1 a = S.2.2.1 a) ∧ ∀ a, a < S.1 → ¬ S.2.2.1 a = 9 → L' a = L a
theorem LfS.rf {S : mS} {L : mL} : LfS S L S L := ⟨Nat.le_refl _, fun _ _ => rfl, fun _ _ _ => rfl⟩
theorem LfS.tr {S S' S'' : mS} {L L' L'' : mL} (h : LfS S L S' L') (k : LfS S' L' S'' L'') : LfS S L S'' L'' := by
  refine ⟨Nat.le_trans h.1 k.1, fun a ha => ?_, fun a ha h9 => ?_⟩
  · rw [k.2.1 a (Nat.lt_of_lt_of_le ha h.1), h.2.1 a ha]
  · rw [k.2.2 a (Nat.lt_of_lt_of_le ha h.1) (by rw [h.2.1 a ha]; exact h9), h.2.2 a ha h9]
/-- steps that leave the longs, and what cells there are, alone -/
def PLg (f : mF) : Prop := ∀ o ls st S I L R q, f o ls st S I L R = some q → q.2.2.2.1 = S ∧ q.2.2.2.2.2.1 = L
theorem PLg.lf {f : mF} (h : PLg f) {o : mOp} {ls st : List Value} {S : mS} {I : mI} {L : mL} {R : mR} {q : mCf} (e : f o ls st S I L R = some q) : LfS S L q.2.2.2.1 q.2.2.2.2.2.1 := by
  obtain ⟨h1, h2⟩ := h _ _ _ _ _ _ _ _ e
  rw [h1, h2]
  exact LfS.rf
theorem pg_bad : PLg (f_bad) := by
  intro o ls st S I L R q h
  unfold f_bad at h
  (repeat' (split at h)) <;> first
    | (cases h; exact ⟨rfl, rfl⟩)
    | cases h
theorem pg_ic : PLg (f_ic) := by
  intro o ls st S I L R q h
  unfold f_ic at h
  (repeat' (split at h)) <;> first
    | (cases h; exact ⟨rfl, rfl⟩)
    | cases h
theorem pg_lc : PLg (f_lc) := by
  intro o ls st S I L R q h
  unfold f_lc at h
  (repeat' (split at h)) <;> first
    | (cases h; exact ⟨rfl, rfl⟩)
    | cases h
theorem pg_il : PLg (f_il) := by
  intro o ls st S I L R q h
  unfold f_il at h
  (repeat' (split at h)) <;> first
    | (cases h; exact ⟨rfl, rfl⟩)
    | cases h
theorem pg_ll : PLg (f_ll) := by
  intro o ls st S I L R q h
  unfold f_ll at h
  (repeat' (split at h)) <;> first
    | (cases h; exact ⟨rfl, rfl⟩)
    | cases h
theorem pg_al : PLg (f_al) := by
  intro o ls st S I L R q h
  unfold f_al at h
  (repeat' (split at h)) <;> first
    | (cases h; exact ⟨rfl, rfl⟩)
    | cases h
theorem pg_is : PLg (f_is) := by
  intro o ls st S I L R q h
  unfold f_is at h
  (repeat' (split at h)) <;> first
    | (cases h; exact ⟨rfl, rfl⟩)
    | cases h
theorem pg_ls : PLg (f_ls) := by
  intro o ls st S I L R q h
  unfold f_ls at h
  (repeat' (split at h)) <;> first
    | (cases h; exact ⟨rfl, rfl⟩)
    | cases h
theorem pg_as : PLg (f_as) := by
  intro o ls st S I L R q h
  unfold f_as at h
  (repeat' (split at h)) <;> first
    | (cases h; exact ⟨rfl, rfl⟩)
    | cases h
theorem pg_ii : PLg (f_ii) := by
  intro o ls st S I L R q h
  unfold f_ii at h
  (repeat' (split at h)) <;> first
    | (cases h; exact ⟨rfl, rfl⟩)
    | cases h
theorem pg_bi (g : Int32 → Int32 → Int32) : PLg (f_bi g) := by
  intro o ls st S I L R q h
  unfold f_bi at h
  (repeat' (split at h)) <;> first
    | (cases h; exact ⟨rfl, rfl⟩)
    | cases h
theorem pg_bd (g : Int32 → Int32 → Int32) : PLg (f_bd g) := by
  intro o ls st S I L R q h
  unfold f_bd at h
  (repeat' (split at h)) <;> first
    | (cases h; exact ⟨rfl, rfl⟩)
    | cases h
theorem pg_ui (g : Int32 → Int32) : PLg (f_ui g) := by
  intro o ls st S I L R q h
  unfold f_ui at h
  (repeat' (split at h)) <;> first
    | (cases h; exact ⟨rfl, rfl⟩)
    | cases h
theorem pg_bl (g : Int64 → Int64 → Int64) : PLg (f_bl g) := by
  intro o ls st S I L R q h
  unfold f_bl at h
  (repeat' (split at h)) <;> first
    | (cases h; exact ⟨rfl, rfl⟩)
    | cases h
theorem pg_bld (g : Int64 → Int64 → Int64) : PLg (f_bld g) := by
  intro o ls st S I L R q h
  unfold f_bld at h
  (repeat' (split at h)) <;> first
    | (cases h; exact ⟨rfl, rfl⟩)
    | cases h
theorem pg_lneg : PLg (f_lneg) := by
  intro o ls st S I L R q h
  unfold f_lneg at h
  (repeat' (split at h)) <;> first
    | (cases h; exact ⟨rfl, rfl⟩)
    | cases h
theorem pg_sl (g : Int64 → Int32 → Int64) : PLg (f_sl g) := by
  intro o ls st S I L R q h
  unfold f_sl at h
  (repeat' (split at h)) <;> first
    | (cases h; exact ⟨rfl, rfl⟩)
    | cases h
theorem pg_lcmp : PLg (f_lcmp) := by
  intro o ls st S I L R q h
  unfold f_lcmp at h
  (repeat' (split at h)) <;> first
    | (cases h; exact ⟨rfl, rfl⟩)
    | cases h
theorem pg_i2l : PLg (f_i2l) := by
  intro o ls st S I L R q h
  unfold f_i2l at h
  (repeat' (split at h)) <;> first
    | (cases h; exact ⟨rfl, rfl⟩)
    | cases h
theorem pg_l2i : PLg (f_l2i) := by
  intro o ls st S I L R q h
  unfold f_l2i at h
  (repeat' (split at h)) <;> first
    | (cases h; exact ⟨rfl, rfl⟩)
    | cases h
theorem pg_dup : PLg (f_dup) := by
  intro o ls st S I L R q h
  unfold f_dup at h
  (repeat' (split at h)) <;> first
    | (cases h; exact ⟨rfl, rfl⟩)
    | cases h
theorem pg_dup2 : PLg (f_dup2) := by
  intro o ls st S I L R q h
  unfold f_dup2 at h
  (repeat' (split at h)) <;> first
    | (cases h; exact ⟨rfl, rfl⟩)
    | cases h
theorem pg_pop : PLg (f_pop) := by
  intro o ls st S I L R q h
  unfold f_pop at h
  (repeat' (split at h)) <;> first
    | (cases h; exact ⟨rfl, rfl⟩)
    | cases h
theorem pg_if (g : Int32 → Bool) : PLg (f_if g) := by
  intro o ls st S I L R q h
  unfold f_if at h
  (repeat' (split at h)) <;> first
    | (cases h; exact ⟨rfl, rfl⟩)
    | cases h
theorem pg_cp (g : Int32 → Int32 → Bool) : PLg (f_cp g) := by
  intro o ls st S I L R q h
  unfold f_cp at h
  (repeat' (split at h)) <;> first
    | (cases h; exact ⟨rfl, rfl⟩)
    | cases h
theorem pg_go : PLg (f_go) := by
  intro o ls st S I L R q h
  unfold f_go at h
  (repeat' (split at h)) <;> first
    | (cases h; exact ⟨rfl, rfl⟩)
    | cases h
theorem pg_nu : PLg (f_nu) := by
  intro o ls st S I L R q h
  unfold f_nu at h
  (repeat' (split at h)) <;> first
    | (cases h; exact ⟨rfl, rfl⟩)
    | cases h
theorem pg_nn : PLg (f_nn) := by
  intro o ls st S I L R q h
  unfold f_nn at h
  (repeat' (split at h)) <;> first
    | (cases h; exact ⟨rfl, rfl⟩)
    | cases h
theorem pg_an : PLg (f_an) := by
  intro o ls st S I L R q h
  unfold f_an at h
  (repeat' (split at h)) <;> first
    | (cases h; exact ⟨rfl, rfl⟩)
    | cases h
theorem pg_gi : PLg (f_gi) := by
  intro o ls st S I L R q h
  unfold f_gi at h
  (repeat' (split at h)) <;> first
    | (cases h; exact ⟨rfl, rfl⟩)
    | cases h
theorem pg_gl : PLg (f_gl) := by
  intro o ls st S I L R q h
  unfold f_gl at h
  (repeat' (split at h)) <;> first
    | (cases h; exact ⟨rfl, rfl⟩)
    | cases h
theorem pg_gr : PLg (f_gr) := by
  intro o ls st S I L R q h
  unfold f_gr at h
  (repeat' (split at h)) <;> first
    | (cases h; exact ⟨rfl, rfl⟩)
    | cases h
theorem pg_pi : PLg (f_pi) := by
  intro o ls st S I L R q h
  unfold f_pi at h
  (repeat' (split at h)) <;> first
    | (cases h; exact ⟨rfl, rfl⟩)
    | cases h
theorem pg_pr : PLg (f_pr) := by
  intro o ls st S I L R q h
  unfold f_pr at h
  (repeat' (split at h)) <;> first
    | (cases h; exact ⟨rfl, rfl⟩)
    | cases h
theorem pg_ia : PLg (f_ia) := by
  intro o ls st S I L R q h
  unfold f_ia at h
  (repeat' (split at h)) <;> first
    | (cases h; exact ⟨rfl, rfl⟩)
    | cases h
theorem pg_za (g : Nat) : PLg (f_za g) := by
  intro o ls st S I L R q h
  unfold f_za at h
  (repeat' (split at h)) <;> first
    | (cases h; exact ⟨rfl, rfl⟩)
    | cases h
theorem pg_la : PLg (f_la) := by
  intro o ls st S I L R q h
  unfold f_la at h
  (repeat' (split at h)) <;> first
    | (cases h; exact ⟨rfl, rfl⟩)
    | cases h
theorem pg_aa : PLg (f_aa) := by
  intro o ls st S I L R q h
  unfold f_aa at h
  (repeat' (split at h)) <;> first
    | (cases h; exact ⟨rfl, rfl⟩)
    | cases h
theorem pg_sia : PLg (f_sia) := by
  intro o ls st S I L R q h
  unfold f_sia at h
  (repeat' (split at h)) <;> first
    | (cases h; exact ⟨rfl, rfl⟩)
    | cases h
theorem pg_sba : PLg (f_sba) := by
  intro o ls st S I L R q h
  unfold f_sba at h
  (repeat' (split at h)) <;> first
    | (cases h; exact ⟨rfl, rfl⟩)
    | cases h
theorem pg_sza : PLg (f_sza) := by
  intro o ls st S I L R q h
  unfold f_sza at h
  (repeat' (split at h)) <;> first
    | (cases h; exact ⟨rfl, rfl⟩)
    | cases h
theorem pg_saa : PLg (f_saa) := by
  intro o ls st S I L R q h
  unfold f_saa at h
  (repeat' (split at h)) <;> first
    | (cases h; exact ⟨rfl, rfl⟩)
    | cases h
theorem pg_len : PLg (f_len) := by
  intro o ls st S I L R q h
  unfold f_len at h
  (repeat' (split at h)) <;> first
    | (cases h; exact ⟨rfl, rfl⟩)
    | cases h
theorem pg_gs : PLg (f_gs) := by
  intro o ls st S I L R q h
  unfold f_gs at h
  (repeat' (split at h)) <;> first
    | (cases h; exact ⟨rfl, rfl⟩)
    | cases h
theorem pg_oi : PLg (f_oi) := by
  intro o ls st S I L R q h
  unfold f_oi at h
  (repeat' (split at h)) <;> first
    | (cases h; exact ⟨rfl, rfl⟩)
    | cases h
theorem pg_ts : PLg (f_ts) := by
  intro o ls st S I L R q h
  unfold f_ts at h
  (repeat' (split at h)) <;> first
    | (cases h; exact ⟨rfl, rfl⟩)
    | cases h
theorem pg_pz : PLg (f_pz) := by
  intro o ls st S I L R q h
  unfold f_pz at h
  (repeat' (split at h)) <;> first
    | (cases h; exact ⟨rfl, rfl⟩)
    | cases h
theorem pg_pop2 : PLg (f_pop2) := by
  intro o ls st S I L R q h
  unfold f_pop2 at h
  (repeat' (split at h)) <;> first
    | (cases h; exact ⟨rfl, rfl⟩)
    | cases h
theorem pg_mm (g : Int32 → Int32 → Int32) : PLg (f_mm g) := by
  intro o ls st S I L R q h
  unfold f_mm at h
  (repeat' (split at h)) <;> first
    | (cases h; exact ⟨rfl, rfl⟩)
    | cases h
theorem pg_ma : PLg (f_ma) := by
  intro o ls st S I L R q h
  unfold f_ma at h
  (repeat' (split at h)) <;> first
    | (cases h; exact ⟨rfl, rfl⟩)
    | cases h
theorem pg_lds : PLg (f_lds) := by
  intro o ls st S I L R q h
  unfold f_lds at h
  (repeat' (split at h)) <;> first
    | (cases h; exact ⟨rfl, rfl⟩)
    | cases h
theorem pg_afl : PLg (f_afl) := by
  intro o ls st S I L R q h
  unfold f_afl at h
  (repeat' (split at h)) <;> first
    | (cases h; exact ⟨rfl, rfl⟩)
    | cases h
theorem pg_flv : PLg (f_flv) := by
  intro o ls st S I L R q h
  unfold f_flv at h
  (repeat' (split at h)) <;> first
    | (cases h; exact ⟨rfl, rfl⟩)
    | cases h
theorem pg_flc : PLg (f_flc) := by
  intro o ls st S I L R q h
  unfold f_flc at h
  (repeat' (split at h)) <;> first
    | (cases h; exact ⟨rfl, rfl⟩)
    | cases h
theorem pg_fln : PLg (f_fln) := by
  intro o ls st S I L R q h
  unfold f_fln at h
  (repeat' (split at h)) <;> first
    | (cases h; exact ⟨rfl, rfl⟩)
    | cases h
theorem pg_fba : PLg (f_fba) := by
  intro o ls st S I L R q h
  unfold f_fba at h
  (repeat' (split at h)) <;> first
    | (cases h; exact ⟨rfl, rfl⟩)
    | cases h
theorem pg_gcs : PLg (f_gcs) := by
  intro o ls st S I L R q h
  unfold f_gcs at h
  (repeat' (split at h)) <;> first
    | (cases h; exact ⟨rfl, rfl⟩)
    | cases h
theorem pg_gfm : PLg (f_gfm) := by
  intro o ls st S I L R q h
  unfold f_gfm at h
  (repeat' (split at h)) <;> first
    | (cases h; exact ⟨rfl, rfl⟩)
    | cases h
theorem pg_cci : PLg (f_cci) := by
  intro o ls st S I L R q h
  unfold f_cci at h
  (repeat' (split at h)) <;> first
    | (cases h; exact ⟨rfl, rfl⟩)
    | cases h
def opL (o : mOp) : Bool := !(o.1 == 81) && ((!(o.1 == 90) || o.2.2.1 == 11) && (!(o.1 == 71 || o.1 == 93) || o.2.2.1 == 9))
theorem lw_pl {o : mOp} {ls st : List Value} {S : mS} {I : mI} {L : mL} {R : mR} {q : mCf} (ho : o.2.2.1 = 9) (h : f_pl o ls st S I L R = some q) : LfS S L q.2.2.2.1 q.2.2.2.2.2.1 := by
  unfold f_pl at h
  (repeat' (split at h)) <;> first
    | (rename_i hk; cases h; exact ⟨Nat.le_refl _, fun _ _ => rfl, fun a _ h9 => uu_n _ _ (fun z => h9 (by rw [z, hk.2]; exact ho))⟩)
    | cases h
theorem lw_ac {o : mOp} {ls st : List Value} {S : mS} {I : mI} {L : mL} {R : mR} {q : mCf} (ho : o.2.2.1 = 11) (h : f_ac o ls st S I L R = some q) : LfS S L q.2.2.2.1 q.2.2.2.2.2.1 := by
  unfold f_ac at h
  (repeat' (split at h)) <;> first
    | (cases h; first | exact LfS.rf | (exfalso; contradiction))
    | cases h
    | (exfalso; contradiction)
theorem lw_new {o : mOp} {ls st : List Value} {S : mS} {I : mI} {L : mL} {R : mR} {q : mCf} (h : f_new o ls st S I L R = some q) : LfS S L q.2.2.2.1 q.2.2.2.2.2.1 := by
  unfold f_new at h
  cases h
  exact ⟨Nat.le_succ _, fun a ha => uu_n _ _ (Nat.ne_of_lt ha), fun a ha _ => uu_n _ _ (Nat.ne_of_lt ha)⟩
theorem lw_na {o : mOp} {ls st : List Value} {S : mS} {I : mI} {L : mL} {R : mR} {q : mCf} (h : f_na o ls st S I L R = some q) : LfS S L q.2.2.2.1 q.2.2.2.2.2.1 := by
  unfold f_na at h
  (repeat' (split at h)) <;> first
    | (cases h; exact ⟨Nat.le_succ _, fun a ha => uu_n _ _ (Nat.ne_of_lt ha), fun a ha _ => uu_n _ _ (Nat.ne_of_lt ha)⟩)
    | cases h
theorem lw_cln {o : mOp} {ls st : List Value} {S : mS} {I : mI} {L : mL} {R : mR} {q : mCf} (h : f_cln o ls st S I L R = some q) : LfS S L q.2.2.2.1 q.2.2.2.2.2.1 := by
  unfold f_cln at h
  (repeat' (split at h)) <;> first
    | (cases h; exact ⟨Nat.le_succ _, fun a ha => uu_n _ _ (Nat.ne_of_lt ha), fun a ha _ => uu_n _ _ (Nat.ne_of_lt ha)⟩)
    | cases h
theorem mlt_lo {α : Type} {f : Nat → α} {a n : Nat} {x y : α} {b : Nat} (h : b < a) : mlt f a n x y b = f b := by
  unfold mlt
  rw [if_neg (Nat.ne_of_lt h), if_neg (fun z => Nat.lt_asymm h z.1)]
theorem lw_mu {o : mOp} {ls st : List Value} {S : mS} {I : mI} {L : mL} {R : mR} {q : mCf} (h : f_mu o ls st S I L R = some q) : LfS S L q.2.2.2.1 q.2.2.2.2.2.1 := by
  unfold f_mu at h
  (repeat' (split at h)) <;> first
    | (cases h; exact ⟨Nat.le_add_right _ _, fun a ha => mlt_lo ha, fun a ha _ => mlt_lo ha⟩)
    | cases h
theorem opL71 {o : mOp} (h : opL o = true) (k : o.1 = 71 ∨ o.1 = 93) : o.2.2.1 = 9 := by
  unfold opL at h
  rw [Bool.and_eq_true, Bool.and_eq_true, Bool.or_eq_true, Bool.or_eq_true] at h
  rcases h.2.2 with z | z
  · rcases k with k | k <;> rw [k] at z <;> cases z
  · exact eq_of_beq z
theorem opL90 {o : mOp} (h : opL o = true) (k : o.1 = 90) : o.2.2.1 = 11 := by
  unfold opL at h
  rw [Bool.and_eq_true, Bool.and_eq_true, Bool.or_eq_true, Bool.or_eq_true] at h
  rcases h.2.1 with z | z
  · rw [k] at z; cases z
  · exact eq_of_beq z
theorem opL81 {o : mOp} (h : opL o = true) : ¬ o.1 = 81 := fun k => by
  unfold opL at h
  rw [k] at h
  cases h
theorem stpL {o : mOp} {ls st : List Value} {S : mS} {I : mI} {L : mL} {R : mR} {q : mCf} (ho : opL o = true) (h : mStp o o ls st S I L R = some q) : LfS S L q.2.2.2.1 q.2.2.2.2.2.1 := by
  have go : ∀ k f, o.1 = k → mFs[k]? = some f → f o ls st S I L R = some q → LfS S L q.2.2.2.1 q.2.2.2.2.2.1 := by
    intro k f hk hf e
    match k, hk, hf with
    | 0, hk, hf => obtain rfl : f_bad = f := Option.some.inj hf; exact PLg.lf (pg_bad) e
    | 1, hk, hf => obtain rfl : f_bad = f := Option.some.inj hf; exact PLg.lf (pg_bad) e
    | 2, hk, hf => obtain rfl : f_ic = f := Option.some.inj hf; exact PLg.lf (pg_ic) e
    | 3, hk, hf => obtain rfl : f_ic = f := Option.some.inj hf; exact PLg.lf (pg_ic) e
    | 4, hk, hf => obtain rfl : f_ic = f := Option.some.inj hf; exact PLg.lf (pg_ic) e
    | 5, hk, hf => obtain rfl : f_ic = f := Option.some.inj hf; exact PLg.lf (pg_ic) e
    | 6, hk, hf => obtain rfl : f_lc = f := Option.some.inj hf; exact PLg.lf (pg_lc) e
    | 7, hk, hf => obtain rfl : f_lc = f := Option.some.inj hf; exact PLg.lf (pg_lc) e
    | 8, hk, hf => obtain rfl : f_il = f := Option.some.inj hf; exact PLg.lf (pg_il) e
    | 9, hk, hf => obtain rfl : f_il = f := Option.some.inj hf; exact PLg.lf (pg_il) e
    | 10, hk, hf => obtain rfl : f_ll = f := Option.some.inj hf; exact PLg.lf (pg_ll) e
    | 11, hk, hf => obtain rfl : f_ll = f := Option.some.inj hf; exact PLg.lf (pg_ll) e
    | 12, hk, hf => obtain rfl : f_al = f := Option.some.inj hf; exact PLg.lf (pg_al) e
    | 13, hk, hf => obtain rfl : f_al = f := Option.some.inj hf; exact PLg.lf (pg_al) e
    | 14, hk, hf => obtain rfl : f_is = f := Option.some.inj hf; exact PLg.lf (pg_is) e
    | 15, hk, hf => obtain rfl : f_is = f := Option.some.inj hf; exact PLg.lf (pg_is) e
    | 16, hk, hf => obtain rfl : f_ls = f := Option.some.inj hf; exact PLg.lf (pg_ls) e
    | 17, hk, hf => obtain rfl : f_ls = f := Option.some.inj hf; exact PLg.lf (pg_ls) e
    | 18, hk, hf => obtain rfl : f_as = f := Option.some.inj hf; exact PLg.lf (pg_as) e
    | 19, hk, hf => obtain rfl : f_as = f := Option.some.inj hf; exact PLg.lf (pg_as) e
    | 20, hk, hf => obtain rfl : f_ii = f := Option.some.inj hf; exact PLg.lf (pg_ii) e
    | 21, hk, hf => obtain rfl : f_bi (fun x y => x + y) = f := Option.some.inj hf; exact PLg.lf (pg_bi _) e
    | 22, hk, hf => obtain rfl : f_bi (fun x y => x - y) = f := Option.some.inj hf; exact PLg.lf (pg_bi _) e
    | 23, hk, hf => obtain rfl : f_bi (fun x y => x * y) = f := Option.some.inj hf; exact PLg.lf (pg_bi _) e
    | 24, hk, hf => obtain rfl : f_bi (fun x y => x &&& y) = f := Option.some.inj hf; exact PLg.lf (pg_bi _) e
    | 25, hk, hf => obtain rfl : f_bi (fun x y => x ||| y) = f := Option.some.inj hf; exact PLg.lf (pg_bi _) e
    | 26, hk, hf => obtain rfl : f_bi (fun x y => x ^^^ y) = f := Option.some.inj hf; exact PLg.lf (pg_bi _) e
    | 27, hk, hf => obtain rfl : f_bd (fun x y => x / y) = f := Option.some.inj hf; exact PLg.lf (pg_bd _) e
    | 28, hk, hf => obtain rfl : f_bd (fun x y => x - x / y * y) = f := Option.some.inj hf; exact PLg.lf (pg_bd _) e
    | 29, hk, hf => obtain rfl : f_ui (fun x => -x) = f := Option.some.inj hf; exact PLg.lf (pg_ui _) e
    | 30, hk, hf => obtain rfl : f_bi (fun x y => x <<< (y &&& 31)) = f := Option.some.inj hf; exact PLg.lf (pg_bi _) e
    | 31, hk, hf => obtain rfl : f_bi (fun x y => x >>> (y &&& 31)) = f := Option.some.inj hf; exact PLg.lf (pg_bi _) e
    | 32, hk, hf => obtain rfl : f_bl (fun x y => x + y) = f := Option.some.inj hf; exact PLg.lf (pg_bl _) e
    | 33, hk, hf => obtain rfl : f_bl (fun x y => x - y) = f := Option.some.inj hf; exact PLg.lf (pg_bl _) e
    | 34, hk, hf => obtain rfl : f_bl (fun x y => x * y) = f := Option.some.inj hf; exact PLg.lf (pg_bl _) e
    | 35, hk, hf => obtain rfl : f_bl (fun x y => x &&& y) = f := Option.some.inj hf; exact PLg.lf (pg_bl _) e
    | 36, hk, hf => obtain rfl : f_bl (fun x y => x ||| y) = f := Option.some.inj hf; exact PLg.lf (pg_bl _) e
    | 37, hk, hf => obtain rfl : f_bl (fun x y => x ^^^ y) = f := Option.some.inj hf; exact PLg.lf (pg_bl _) e
    | 38, hk, hf => obtain rfl : f_bld (fun x y => x / y) = f := Option.some.inj hf; exact PLg.lf (pg_bld _) e
    | 39, hk, hf => obtain rfl : f_bld (fun x y => x - x / y * y) = f := Option.some.inj hf; exact PLg.lf (pg_bld _) e
    | 40, hk, hf => obtain rfl : f_lneg = f := Option.some.inj hf; exact PLg.lf (pg_lneg) e
    | 41, hk, hf => obtain rfl : f_sl (fun x y => x <<< (y.toInt64 &&& 63)) = f := Option.some.inj hf; exact PLg.lf (pg_sl _) e
    | 42, hk, hf => obtain rfl : f_sl (fun x y => (x.toUInt64 >>> (y.toInt64.toUInt64 &&& Int64.toUInt64 63)).toInt64) = f := Option.some.inj hf; exact PLg.lf (pg_sl _) e
    | 43, hk, hf => obtain rfl : f_lcmp = f := Option.some.inj hf; exact PLg.lf (pg_lcmp) e
    | 44, hk, hf => obtain rfl : f_i2l = f := Option.some.inj hf; exact PLg.lf (pg_i2l) e
    | 45, hk, hf => obtain rfl : f_l2i = f := Option.some.inj hf; exact PLg.lf (pg_l2i) e
    | 46, hk, hf => obtain rfl : f_ui (fun x => x.toInt8.toInt32) = f := Option.some.inj hf; exact PLg.lf (pg_ui _) e
    | 47, hk, hf => obtain rfl : f_ui (fun x => (x.toUInt32 % 65536).toInt32) = f := Option.some.inj hf; exact PLg.lf (pg_ui _) e
    | 48, hk, hf => obtain rfl : f_dup = f := Option.some.inj hf; exact PLg.lf (pg_dup) e
    | 49, hk, hf => obtain rfl : f_dup2 = f := Option.some.inj hf; exact PLg.lf (pg_dup2) e
    | 50, hk, hf => obtain rfl : f_pop = f := Option.some.inj hf; exact PLg.lf (pg_pop) e
    | 51, hk, hf => obtain rfl : f_if (fun x => decide (x = 0)) = f := Option.some.inj hf; exact PLg.lf (pg_if _) e
    | 52, hk, hf => obtain rfl : f_if (fun x => !decide (x = 0)) = f := Option.some.inj hf; exact PLg.lf (pg_if _) e
    | 53, hk, hf => obtain rfl : f_if (fun x => decide (x < 0)) = f := Option.some.inj hf; exact PLg.lf (pg_if _) e
    | 54, hk, hf => obtain rfl : f_if (fun x => !decide (x < 0)) = f := Option.some.inj hf; exact PLg.lf (pg_if _) e
    | 55, hk, hf => obtain rfl : f_if (fun x => decide (0 < x)) = f := Option.some.inj hf; exact PLg.lf (pg_if _) e
    | 56, hk, hf => obtain rfl : f_if (fun x => !decide (0 < x)) = f := Option.some.inj hf; exact PLg.lf (pg_if _) e
    | 57, hk, hf => obtain rfl : f_cp (fun x y => decide (x = y)) = f := Option.some.inj hf; exact PLg.lf (pg_cp _) e
    | 58, hk, hf => obtain rfl : f_cp (fun x y => !decide (x = y)) = f := Option.some.inj hf; exact PLg.lf (pg_cp _) e
    | 59, hk, hf => obtain rfl : f_cp (fun x y => decide (x < y)) = f := Option.some.inj hf; exact PLg.lf (pg_cp _) e
    | 60, hk, hf => obtain rfl : f_cp (fun x y => !decide (x < y)) = f := Option.some.inj hf; exact PLg.lf (pg_cp _) e
    | 61, hk, hf => obtain rfl : f_cp (fun x y => decide (y < x)) = f := Option.some.inj hf; exact PLg.lf (pg_cp _) e
    | 62, hk, hf => obtain rfl : f_cp (fun x y => !decide (y < x)) = f := Option.some.inj hf; exact PLg.lf (pg_cp _) e
    | 63, hk, hf => obtain rfl : f_go = f := Option.some.inj hf; exact PLg.lf (pg_go) e
    | 64, hk, hf => obtain rfl : f_nu = f := Option.some.inj hf; exact PLg.lf (pg_nu) e
    | 65, hk, hf => obtain rfl : f_nn = f := Option.some.inj hf; exact PLg.lf (pg_nn) e
    | 66, hk, hf => obtain rfl : f_an = f := Option.some.inj hf; exact PLg.lf (pg_an) e
    | 67, hk, hf => obtain rfl : f_gi = f := Option.some.inj hf; exact PLg.lf (pg_gi) e
    | 68, hk, hf => obtain rfl : f_gl = f := Option.some.inj hf; exact PLg.lf (pg_gl) e
    | 69, hk, hf => obtain rfl : f_gr = f := Option.some.inj hf; exact PLg.lf (pg_gr) e
    | 70, hk, hf => obtain rfl : f_pi = f := Option.some.inj hf; exact PLg.lf (pg_pi) e
    | 71, hk, hf => obtain rfl : f_pl = f := Option.some.inj hf; exact lw_pl (opL71 ho (Or.inl hk)) e
    | 72, hk, hf => obtain rfl : f_pr = f := Option.some.inj hf; exact PLg.lf (pg_pr) e
    | 73, hk, hf => obtain rfl : f_ia = f := Option.some.inj hf; exact PLg.lf (pg_ia) e
    | 74, hk, hf => obtain rfl : f_za 10 = f := Option.some.inj hf; exact PLg.lf (pg_za _) e
    | 75, hk, hf => obtain rfl : f_za 13 = f := Option.some.inj hf; exact PLg.lf (pg_za _) e
    | 76, hk, hf => obtain rfl : f_la = f := Option.some.inj hf; exact PLg.lf (pg_la) e
    | 77, hk, hf => obtain rfl : f_aa = f := Option.some.inj hf; exact PLg.lf (pg_aa) e
    | 78, hk, hf => obtain rfl : f_sia = f := Option.some.inj hf; exact PLg.lf (pg_sia) e
    | 79, hk, hf => obtain rfl : f_sba = f := Option.some.inj hf; exact PLg.lf (pg_sba) e
    | 80, hk, hf => obtain rfl : f_sza = f := Option.some.inj hf; exact PLg.lf (pg_sza) e
    | 81, hk, hf => obtain rfl : f_sla = f := Option.some.inj hf; exact absurd hk (opL81 ho)
    | 82, hk, hf => obtain rfl : f_saa = f := Option.some.inj hf; exact PLg.lf (pg_saa) e
    | 83, hk, hf => obtain rfl : f_len = f := Option.some.inj hf; exact PLg.lf (pg_len) e
    | 84, hk, hf => obtain rfl : f_new = f := Option.some.inj hf; exact lw_new e
    | 85, hk, hf => obtain rfl : f_na = f := Option.some.inj hf; exact lw_na e
    | 86, hk, hf => obtain rfl : f_na = f := Option.some.inj hf; exact lw_na e
    | 87, hk, hf => obtain rfl : f_mu = f := Option.some.inj hf; exact lw_mu e
    | 88, hk, hf => obtain rfl : f_gs = f := Option.some.inj hf; exact PLg.lf (pg_gs) e
    | 89, hk, hf => obtain rfl : f_oi = f := Option.some.inj hf; exact PLg.lf (pg_oi) e
    | 90, hk, hf => obtain rfl : f_ac = f := Option.some.inj hf; exact lw_ac (opL90 ho hk) e
    | 91, hk, hf => obtain rfl : f_ts = f := Option.some.inj hf; exact PLg.lf (pg_ts) e
    | 92, hk, hf => obtain rfl : f_pi = f := Option.some.inj hf; exact PLg.lf (pg_pi) e
    | 93, hk, hf => obtain rfl : f_pl = f := Option.some.inj hf; exact lw_pl (opL71 ho (Or.inr hk)) e
    | 94, hk, hf => obtain rfl : f_pr = f := Option.some.inj hf; exact PLg.lf (pg_pr) e
    | 95, hk, hf => obtain rfl : f_pz = f := Option.some.inj hf; exact PLg.lf (pg_pz) e
    | 96, hk, hf => obtain rfl : f_pz = f := Option.some.inj hf; exact PLg.lf (pg_pz) e
    | 97, hk, hf => obtain rfl : f_pop2 = f := Option.some.inj hf; exact PLg.lf (pg_pop2) e
    | 98, hk, hf => obtain rfl : f_gs = f := Option.some.inj hf; exact PLg.lf (pg_gs) e
    | 99, hk, hf => obtain rfl : f_ic = f := Option.some.inj hf; exact PLg.lf (pg_ic) e
    | 100, hk, hf => obtain rfl : f_mm (fun x y => if x < y then y else x) = f := Option.some.inj hf; exact PLg.lf (pg_mm _) e
    | 101, hk, hf => obtain rfl : f_mm (fun x y => if y < x then y else x) = f := Option.some.inj hf; exact PLg.lf (pg_mm _) e
    | 102, hk, hf => obtain rfl : f_ma = f := Option.some.inj hf; exact PLg.lf (pg_ma) e
    | 103, hk, hf => obtain rfl : f_bad = f := Option.some.inj hf; exact PLg.lf (pg_bad) e
    | 104, hk, hf => obtain rfl : f_lds = f := Option.some.inj hf; exact PLg.lf (pg_lds) e
    | 105, hk, hf => obtain rfl : f_afl = f := Option.some.inj hf; exact PLg.lf (pg_afl) e
    | 106, hk, hf => obtain rfl : f_flv = f := Option.some.inj hf; exact PLg.lf (pg_flv) e
    | 107, hk, hf => obtain rfl : f_flc = f := Option.some.inj hf; exact PLg.lf (pg_flc) e
    | 108, hk, hf => obtain rfl : f_fln = f := Option.some.inj hf; exact PLg.lf (pg_fln) e
    | 109, hk, hf => obtain rfl : f_fba = f := Option.some.inj hf; exact PLg.lf (pg_fba) e
    | 110, hk, hf => obtain rfl : f_gcs = f := Option.some.inj hf; exact PLg.lf (pg_gcs) e
    | 111, hk, hf => obtain rfl : f_gfm = f := Option.some.inj hf; exact PLg.lf (pg_gfm) e
    | 112, hk, hf => obtain rfl : f_cln = f := Option.some.inj hf; exact lw_cln e
    | 113, hk, hf => obtain rfl : f_cci = f := Option.some.inj hf; exact PLg.lf (pg_cci) e
    | k + 114, hk, hf => cases hf
  unfold mStp at h
  cases hf : mFs[o.1]? with
  | none => rw [hf] at h; cases h
  | some f => rw [hf] at h; exact go _ f rfl hf h
def okL (M : List Nat) : Bool := M.all (fun j => match mCode[j]? with
  | none => true
  | some l => l.all (fun q => opL q.2 && (!(q.2.1 == 1) || M.contains q.2.2.2.1)))
theorem mOf_me {o : mOp} {pc : Nat} : ∀ l, mOf l pc = some o → ∃ q, q ∈ l ∧ q.2 = o := by
  intro l
  induction l with
  | nil => intro h; cases h
  | cons a l ih =>
    intro h
    unfold mOf at h
    by_cases g : a.1 = pc
    · rw [if_pos g] at h
      exact ⟨a, List.mem_cons_self, Option.some.inj h⟩
    · rw [if_neg g] at h
      obtain ⟨q, q1, q2⟩ := ih h
      exact ⟨q, List.mem_cons_of_mem _ q1, q2⟩
theorem op_of {M : List Nat} {j pc : Nat} {o : mOp} (hM : okL M = true) (hj : j ∈ M) (ho : opAt j pc = some o) : opL o = true ∧ (o.1 = 1 → o.2.2.1 ∈ M) := by
  have h := List.all_eq_true.mp hM j hj
  unfold opAt at ho
  cases hc : mCode[j]? with
  | none => rw [hc] at ho; cases ho
  | some l =>
    rw [hc] at ho h
    obtain ⟨q, q1, q2⟩ := mOf_me l ho
    have k := List.all_eq_true.mp h q q1
    rw [q2, Bool.and_eq_true] at k
    refine ⟨k.1, fun e => ?_⟩
    rw [Bool.or_eq_true] at k
    rcases k.2 with z | z
    · rw [e] at z; cases z
    · exact List.contains_iff_mem.mp z
theorem run_L {M : List Nat} (hM : okL M = true) : ∀ (n d j pc : Nat) (ls st : List Value) (S : mS) (I : mI) (L : mL) (R : mR) (r : mRs), j ∈ M → run n d j pc ls st S I L R = some r → LfS S L r.2.1 r.2.2.2.1 := by
  intro n
  induction n with
  | zero => intro d j pc ls st S I L R r _ h; simp [run] at h
  | succ n ih =>
    intro d j pc ls st S I L R r hj h
    cases d with
    | zero => simp [run] at h
    | succ d =>
      rw [run] at h
      try dsimp only at h
      cases ho : opAt j pc with
      | none => rw [ho] at h; cases h
      | some o =>
        rw [ho] at h
        dsimp only at h
        obtain ⟨g1, g2⟩ := op_of hM hj ho
        by_cases h0 : o.1 = 0
        · rw [if_pos h0] at h
          cases hv : mRt o st with
          | none => rw [hv] at h; cases h
          | some v => rw [hv] at h; cases h; exact LfS.rf
        · rw [if_neg h0] at h
          by_cases h1 : o.1 = 1
          · rw [if_pos h1] at h
            cases hq : mAr o st S with
            | none => rw [hq] at h; cases h
            | some q =>
              rw [hq] at h
              dsimp only at h
              by_cases hcs : cs q.1 ≤ mxL o.2.2.1
              case neg => rw [if_neg hcs] at h; cases h
              rw [if_pos hcs] at h
              cases hr : run n d o.2.2.1 0 (ent (mxL o.2.2.1) q.1) [] S I L R with
              | none => rw [hr] at h; cases h
              | some r1 =>
                rw [hr] at h
                exact (ih _ _ _ _ _ _ _ _ _ _ (g2 h1) hr).tr (ih _ _ _ _ _ _ _ _ _ _ hj h)
          · rw [if_neg h1] at h
            cases hq : mStp o o ls st S I L R with
            | none => rw [hq] at h; cases h
            | some q =>
              rw [hq] at h
              exact (stpL g1 hq).tr (ih _ _ _ _ _ _ _ _ _ _ hj h)
theorem evm_L {M : List Nat} {d j : Nat} {as : List Value} {S : mS} {I : mI} {L : mL} {R : mR} {Q : mQ} (hM : okL M = true) (hj : j ∈ M) (h : EvM d j as S I L R (fun v S' I' L' R' => LfS S L S' L' → Q v S' I' L' R')) : EvM d j as S I L R Q := by
  obtain ⟨h1, n, r, h2, h3⟩ := h
  exact ⟨h1, n, r, h2, h3 (run_L hM _ _ _ _ _ _ _ _ _ _ _ hj h2)⟩
def okX : List Nat := [19, 20, 21, 22, 23, 24, 25, 26, 27, 28, 46, 47, 48, 49, 50, 51, 52, 53, 54, 55, 56, 57, 58, 59, 60, 61, 62, 63, 64, 65, 66, 68, 69, 70, 71, 72, 73, 74, 75, 76, 77, 78, 79, 80, 81, 82, 83, 84, 85, 86, 87, 88, 89, 90, 91, 92, 93, 94, 95, 96, 97, 98, 100, 101, 102, 103, 104, 105, 106, 107, 108, 109, 110, 111, 112, 113, 114, 119, 120, 121, 122, 123, 125, 126, 127, 128, 129, 130, 131, 132, 133, 135, 136, 137, 138, 234, 235, 236, 237, 238, 239, 245, 246, 247]
def okM : List Nat := [140, 141, 142, 143, 144, 145, 146, 147, 148, 149, 150, 151, 152, 153, 154, 155, 156, 157, 158, 159, 160, 161, 162, 163, 164, 165, 166, 167, 168, 169, 170, 171, 172, 173, 174, 175, 176, 177, 178, 179, 180, 181, 182, 183, 184, 185, 186, 187, 188, 189, 190, 191, 192, 193, 194, 195, 196, 197, 198, 199, 200, 201, 202, 203, 204, 205, 206, 207, 208, 209, 210, 211, 212, 213, 214, 215, 216, 217, 218, 219, 220, 221, 222, 223, 224, 225, 226, 227, 228, 229]
theorem okX_ : okL okX = true := by decide +kernel
theorem okM_ : okL okM = true := by decide +kernel
