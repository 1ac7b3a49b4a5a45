section CALL
variable {E : gE} {p : Program} {l : Launch} {e : Env} {Rm : Room} {s : State} {m : MethodId} {args : Array Value} {below : List Frame} {meth : Method} {c : Code} {own nm : String} {cc : ByteArray} {nL : Nat} {ret ret0 : Option FieldType} {Q : State → Prop} {pc : Nat} {S S1 : mS} {I I1 : mI} {L L1 : mL} {R R1 : mR} {H : Heap} {locs : List Loc} {cells slots mc ms : Nat} {lsA : Array Slot} {rest st0 : List Value} {v : Value} {aa : Array Value}
theorem g_after (hr : va_Run p l e Rm s m args below meth c H locs cells slots mc ms (F0 m pc lsA st0) rest (gQ E ret v S1 I1 L1 R1 aa) (gA E)) (hS : va_S (gA E) s.heap H locs)
    (kk : ∀ (H1 : Heap) (locs1 : List Loc), gH E S1 I1 L1 R1 H1 → va_S (gA E) s.heap H1 locs1 → W p l e Rm s m args below meth c H1 locs1 (cells + mc) (slots + ms) Q (F0 m (pc + 3) lsA ((if ret = none then none else some (grv E v) : Option Value).toList ++ rest))) :
    W p l e Rm s m args below meth c H locs cells slots Q (F0 m pc lsA st0) := by
  intro T hT X
  obtain ⟨v', st₀, t, T', L9, h0, X', hL, e1, e2, ⟨hv, hg, hz, hk⟩, st⟩ := hr T hT X
  have hv' : v' = (if ret = none then none else some (grv E v) : Option Value) := Outcome.returned.inj hv
  subst hv'
  rw [h0] at hz hk
  obtain ⟨t2, a1, b1⟩ := kk T'.heap (locs ++ L9) (by rw [e1]; exact hg)
    ⟨Nat.le_trans hS.1 (by rw [e1]; exact hz), fun q h1 h2 => by rw [e1, hk q (Nat.lt_of_lt_of_le h1 hS.1) h2]; exact hS.2.1 q h1 h2, fun q hq => by
      rcases List.mem_append.mp hq with h | h
      · exact hS.2.2 q h
      · exact hL q h⟩ T' rfl X'
  exact ⟨t2, st t2 a1, b1⟩
theorem g_pre (hC : gCx E p s m args meth c own nm cc nL ret0) (hH : gH E S I L R H) (hS : va_S (gA E) s.heap H locs) {as : List Value} : ∀ U : State, U.heap = H → s.WarmedH U.vm → gPc E as S I L R (as.map (grv E)).toArray U := fun U hU hW =>
  ⟨rfl, hC.2.2.2.2.2.2.2.2.1.moved hW.alike, hC.2.2.2.2.2.2.2.2.2.1.moved hW hC.2.2.2.2.2.2.2.2.2.2 (fun a h1 h2 => by rw [hU]; exact hS.2.1 a h1 h2), by rw [hU]; exact hH⟩
end CALL
theorem take_rev (E : gE) (st : List Value) (b : Nat) : st.map (grv E) = (((st.take b).reverse).map (grv E)).reverse ++ (st.drop b).map (grv E) := by
  rw [List.map_reverse, List.reverse_reverse, ← List.map_append, List.take_append_drop]
set_option maxHeartbeats 2000000 in
theorem snd (hck : ∀ (j : Nat) (q : mMe), mTab[j]? = some q → ck_m j = true) (E : gE) (l : Launch) : ∀ (n d j pc : Nat) (ls st : List Value) (S : mS) (I : mI) (L : mL) (R : mR) (v : Value) (S' : mS) (I' : mI) (L' : mL) (R' : mR), run n d j pc ls st S I L R = some (v, S', I', L', R') →
    ∀ (p : Program) (e : Env) (Rm : Room) (s : State) (m : MethodId) (args : Array Value) (below : List Frame) (meth : Method) (c : Code) (n0 u0 : Nat) (Q : State → Prop) (q : mMe), mTab[j]? = some q → gCx E p s m args meth c q.1.cls q.1.name q.2.1 q.2.2.1 q.2.2.2 → n0 ≤ S.1 → u0 ≤ S.2.1 → S'.1 - n0 ≤ Rm.cells → S'.2.1 - u0 ≤ Rm.slots → d ≤ Rm.frames → d * 64 ≤ Rm.locals → ls.length = q.2.2.1 →
    gFin E p l e Rm s m args below meth c j n0 u0 Q v S' I' L' R' → gW E p l e Rm s m args below meth c q.2.2.1 n0 u0 Q pc ls st S I L R := by
  intro n
  induction n with
  | zero => intro d j pc ls st S I L R v S' I' L' R' h; simp [run] at h
  | succ n ih =>
    intro d j pc ls st S I L R v S' I' L' R' h p e Rm s m args below meth c n0 u0 Q q hq hC hn hu hce hsl hfr hlo hll hfin
    have hmo := run_mo _ _ _ _ _ _ _ _ _ _ _ h
    cases d with
    | zero => simp [run] at h
    | succ d =>
      rw [run] at h
      cases ho : opAt j pc with
      | none => rw [ho] at h; cases h
      | some o =>
        rw [ho] at h
        dsimp only at h
        have hko := ck_m.op (hck j q hq) hq ho
        unfold ck_o at hko
        by_cases h0 : o.1 = 0
        · rw [if_pos h0] at h
          cases hv : mRt o st with
          | none => rw [hv] at h; cases h
          | some v9 =>
            rw [hv] at h
            cases h
            intro H locs lsA hH hS hl
            exact hfin pc o st H locs lsA ho h0 hv hH hS
        · rw [if_neg h0] at h hko
          by_cases h1 : o.1 = 1
          · rw [if_pos h1] at h hko
            cases hq9 : mAr o st S with
            | none => rw [hq9] at h; cases h
            | some q9 =>
              rw [hq9] at h
              dsimp only at h
              by_cases hcs : cs q9.1 ≤ mxL o.2.2.1
              case neg => rw [if_neg hcs] at h; cases h
              rw [if_pos hcs] at h
              cases hr : run n d o.2.2.1 0 (ent (mxL o.2.2.1) q9.1) [] S I L R with
              | none => rw [hr] at h; cases h
              | some r1 =>
                rw [hr] at h
                obtain ⟨v1, S1, I1, L1, R1⟩ := r1
                dsimp only at h
                have hm1 := run_mo _ _ _ _ _ _ _ _ _ _ _ hr
                have hm2 := run_mo _ _ _ _ _ _ _ _ _ _ _ h
                dsimp only at hm1 hm2 hmo
                unfold ck_l at hko
                split at hko
                case h_2 => cases hko
                rename_i y md pu i1 ic ii ia ib ix hy hex
                simp only [Bool.and_eq_true, Bool.or_eq_true, decide_eq_true_eq] at hko
                obtain ⟨hnx, hcode, hini, hd, hpar, hmx, hpu, hix, hmode⟩ := hko
                have emx : mxL o.2.2.1 = y.2.2.1 := by unfold mxL; rw [hy]
                rw [emx] at hr hcs
                have hM := met_of (E := E) (l := l) (d := d) (hck _ _ hy) hy hcs (wd.is hcode) (fun p e Rm s m args below meth c n0 u0 Q hC hn hu hce hsl hfr hlo hfin => ih _ _ _ _ _ _ _ _ _ _ _ _ _ _ hr p e Rm s m args below meth c n0 u0 Q y hy hC hn hu hce hsl hfr hlo (ent_len _ _ hcs) hfin)
                have kk := ih _ _ _ _ _ _ _ _ _ _ _ _ _ _ h p e Rm s m args below meth c n0 u0 Q q hq hC (by omega) (by omega) hce hsl hfr hlo hll hfin
                rw [hnx] at kk
                have hts := hC.2.2.2.2.2.1
                have hG := gt_good (wd.is hcode)
                have hRo : d + 1 ≤ Rm.frames ∧ 8 + (y.2.2.1 + 11) + d * 64 ≤ Rm.locals := ⟨hfr, by omega⟩
                intro H locs lsA hH hS hl
                have ec : S.1 - n0 + (S1.1 - S.1) = S1.1 - n0 := by omega
                have es : S.2.1 - u0 + (S1.2.1 - S.2.1) = S1.2.1 - u0 := by omega
                have hf : S.1 - n0 + (S1.1 - S.1) ≤ Rm.cells ∧ S.2.1 - u0 + (S1.2.1 - S.2.1) ≤ Rm.slots := by omega
                have hpush : ∀ rs : List Value, (mPu o v1 rs).map (grv E) = (if y.2.2.2 = none then none else some (grv E v1) : Option Value).toList ++ rs.map (grv E) := by
                  intro rs
                  unfold mPu
                  rw [hex]
                  show (if pu = 1 then v1 :: rs else rs).map (grv E) = _
                  by_cases hn9 : y.2.2.2 = none
                  · rw [if_pos hn9] at hpu ⊢
                    rw [hpu, if_neg (by decide)]
                    rfl
                  · rw [if_neg hn9] at hpu ⊢
                    rw [hpu, if_pos rfl]
                    rfl
                have hdone : ∀ (aa : Array Value) (rs : List Value), q9.2 = rs → va_Run p l e Rm s m args below meth c H locs (S.1 - n0) (S.2.1 - u0) (S1.1 - S.1) (S1.2.1 - S.2.1) (F0 m pc lsA (st.map (grv E))) (rs.map (grv E)) (gQ E y.2.2.2 v1 S1 I1 L1 R1 aa) (gA E) → W p l e Rm s m args below meth c H locs (S.1 - n0) (S.2.1 - u0) Q (F0 m pc lsA (st.map (grv E))) := by
                  intro aa rs hrs hR
                  refine g_after hR hS (fun H1 locs1 g1 g2 => ?_)
                  rw [ec, es, ← hpush, ← hrs]
                  exact kk H1 locs1 lsA g1 g2 hl
                have hfix : CallFix p m c q.2.1 q.2.2.1 s args gt q.1.cls := ⟨hC.1, hC.2.1, hC.2.2.2.1, hC.2.2.2.2.1, hts⟩
                unfold mAr at hq9
                rw [hex] at hq9
                have emd : ([md, pu, i1, ic, ii, ia, ib, ix] : List Int).getD 0 0 = md := rfl
                rw [emd] at hq9
                rcases hmode with ⟨hmd, hdg, hrc, w1, w2, w3⟩ | ⟨hmd, hdg, w1, w2⟩ | ⟨hmd, hdg, hvo, hna, w1, w2⟩ | ⟨hmd, hdg, hcl4, w1, w2, w3⟩ | ⟨hmd, hdg, hvo, hna, w1, w2⟩
                · rw [if_neg (by rw [hmd]; decide), if_neg (by rw [hmd]; decide)] at hq9
                  split at hq9
                  · rename_i a rs hdr
                    split at hq9
                    · rename_i hok
                      cases hq9
                      obtain ⟨r, hr9, hrn⟩ := Option.map_eq_some_iff.mp hrc
                      have hK := hok.1.2
                      have hci := (gcls hr9).2.2.2.2
                      obtain ⟨r', h9, cell, g1, g2, g3, -⟩ := (hH.2.1 a (hH.four (by omega)) hok.1.1).2.1 (by omega)
                      have hlen : o.2.2.2.1 ≤ st.length := by
                        rcases Nat.lt_or_ge st.length o.2.2.2.1 with z | z
                        · rw [List.drop_eq_nil_of_le (by omega)] at hdr; cases hdr
                        · exact z
                      have hcw : CallW Rm s args q.1.cls y.1.cls ix.toNat y.1 y.2.1 y.2.2.1 y.2.2.2 (Cond.code y.1 y.2.1 y.2.2.1 y.2.2.2 :: gt) { frames := d, cells := S1.1 - S.1, slots := S1.2.1 - S.2.1, locals := d * 64 } (S1.1 - S.1) (S1.2.1 - S.2.1) o.2.2.2.1 := ⟨callB_of o.2.2.2.1 hts hG rfl rfl rfl (hts _ (wd.is hini)) (hts _ (wd.is w1)) ⟨hd.1, hd.2, hpar⟩ hRo, hts _ (wd.is w2), hts _ (wd.is w3)⟩
                      refine hdone _ rs rfl (va_runV (As := ((st.take o.2.2.2.1).reverse).map (grv E)) (b := gad E a) hfix hM hcw ⟨gPc.blind, ⟨cell, g1, by rw [g3]; rfl, ?_⟩, g_pre hC hH hS⟩ rfl (by simp; omega) hl.1 ?_ (lv_room (by rw [cs_map]; exact hok.2)) hdg hf)
                      · rw [← hrn, g2, hK]
                        exact (hC.2.2.2.2.2.2.2.2.1.1 _ r hr9).2.1
                      · show st.map (grv E) = _
                        rw [take_rev E st o.2.2.2.1, hdr]
                        rfl
                    · cases hq9
                  · cases hq9
                · rw [if_pos hmd] at hq9
                  split at hq9
                  · rename_i hok
                    cases hq9
                    have hcw : CallB Rm s args q.1.cls ix.toNat y.1 y.2.1 y.2.2.1 y.2.2.2 (Cond.code y.1 y.2.1 y.2.2.1 y.2.2.2 :: gt) { frames := d, cells := S1.1 - S.1, slots := S1.2.1 - S.2.1, locals := d * 64 } (S1.1 - S.1) (S1.2.1 - S.2.1) o.2.2.2.1 ∧ (Cond.static y.1).before args s = true := ⟨callB_of o.2.2.2.1 hts hG rfl rfl rfl (hts _ (wd.is hini)) (hts _ (wd.is w1)) ⟨hd.1, hd.2, hpar⟩ hRo, hts _ (wd.is w2)⟩
                    refine hdone _ _ rfl (va_runS (As := ((st.take o.2.2.2.1).reverse).map (grv E)) hfix hM hcw ⟨gPc.blind, g_pre hC hH hS⟩ rfl (by simp; omega) hl.1 ?_ (lv_room (by rw [cs_map]; exact hok.2)) hdg hf)
                    show st.map (grv E) = _
                    exact take_rev E st o.2.2.2.1
                  · cases hq9
                · rw [if_neg (by rw [hmd]; decide), if_neg (by rw [hmd]; decide)] at hq9
                  split at hq9
                  · rename_i a rs hdr
                    split at hq9
                    · rename_i hok
                      cases hq9
                      have hlen : o.2.2.2.1 ≤ st.length := by
                        rcases Nat.lt_or_ge st.length o.2.2.2.1 with z | z
                        · rw [List.drop_eq_nil_of_le (by omega)] at hdr; cases hdr
                        · exact z
                      rw [hvo] at hM hG hcode hdone
                      have hcw : CallB Rm s args q.1.cls ix.toNat y.1 y.2.1 y.2.2.1 none (Cond.code y.1 y.2.1 y.2.2.1 none :: gt) { frames := d, cells := S1.1 - S.1, slots := S1.2.1 - S.2.1, locals := d * 64 } (S1.1 - S.1) (S1.2.1 - S.2.1) o.2.2.2.1 ∧ y.1.name = "<init>" ∧ (Cond.instanceMethod y.1).before args s = true := ⟨callB_of o.2.2.2.1 hts hG rfl rfl rfl (hts _ (wd.is hini)) (hts _ (wd.is w1)) ⟨hd.1, hd.2, hpar⟩ hRo, hna, hts _ (wd.is w2)⟩
                      refine hdone _ rs rfl (va_runI (As := ((st.take o.2.2.2.1).reverse).map (grv E)) (b := gad E a) hfix hM hcw ⟨gPc.blind, g_pre hC hH hS⟩ rfl (by simp; omega) hl.1 ?_ (lv_room (by rw [cs_map]; exact hok.2)) hdg hf)
                      show st.map (grv E) = _
                      rw [take_rev E st o.2.2.2.1, hdr]
                      rfl
                    · cases hq9
                  · cases hq9
                · have hmd4 := hmd
                  rw [if_neg (by rw [hmd]; decide), if_pos hmd] at hq9
                  split at hq9
                  · rename_i x rs hdr
                    split at hq9
                    · rename_i hok
                      cases hq9
                      have hlen : o.2.2.2.1 ≤ st.length := by
                        rcases Nat.lt_or_ge st.length o.2.2.2.1 with z | z
                        · rw [List.drop_eq_nil_of_le (by omega)] at hdr; cases hdr
                        · exact z
                      have hx0 : x ≠ 0 := fun z => by rw [z] at hok; exact absurd hok.1.1 (by decide)
                      have eg : grv E (.float x) = .ref (E.2.2.2.1 (4 + x.toNat)) := gfl_ne hx0
                      obtain ⟨cell, g1, g2, g3⟩ := vk_recv (i := x.toNat / 2) hC.2.2.2.2.2.2.2.2.2.1.2.2.2.2.2.1 (by omega) hS
                      rw [show 5 + 2 * (x.toNat / 2) = 4 + x.toNat by omega] at g1
                      have hcw : CallW Rm s args q.1.cls y.1.cls ix.toNat y.1 y.2.1 y.2.2.1 y.2.2.2 (Cond.code y.1 y.2.1 y.2.2.1 y.2.2.2 :: gt) { frames := d, cells := S1.1 - S.1, slots := S1.2.1 - S.2.1, locals := d * 64 } (S1.1 - S.1) (S1.2.1 - S.2.1) o.2.2.2.1 := ⟨callB_of o.2.2.2.1 hts hG rfl rfl rfl (hts _ (wd.is hini)) (hts _ (wd.is w1)) ⟨hd.1, hd.2, hpar⟩ hRo, hts _ (wd.is w2), hts _ (wd.is w3)⟩
                      refine hdone _ rs rfl (va_runV (As := ((st.take o.2.2.2.1).reverse).map (grv E)) (b := E.2.2.2.1 (4 + x.toNat)) hfix hM hcw ⟨gPc.blind, ⟨cell, g1, g2, by rw [hcl4]; exact g3⟩, fun U hU hW => by
                        have z := g_pre (as := .float x :: (st.take o.2.2.2.1).reverse) hC hH hS U hU hW
                        rw [List.map_cons, eg] at z
                        exact z⟩ rfl (by simp; omega) hl.1 ?_ (lv_room (by rw [cs_map]; exact hok.2)) hdg hf)
                      show st.map (grv E) = _
                      rw [take_rev E st o.2.2.2.1, hdr, List.map_cons, eg]
                    · cases hq9
                  · cases hq9
                · rw [if_neg (by rw [hmd]; decide), if_neg (by rw [hmd]; decide)] at hq9
                  split at hq9
                  · rename_i a rs hdr
                    split at hq9
                    · rename_i hok
                      cases hq9
                      have hlen : o.2.2.2.1 ≤ st.length := by
                        rcases Nat.lt_or_ge st.length o.2.2.2.1 with z | z
                        · rw [List.drop_eq_nil_of_le (by omega)] at hdr; cases hdr
                        · exact z
                      rw [hvo] at hM hG hcode hdone
                      have hcw : va_CN Rm s args q.1.cls ix.toNat y.1 "HotIron" y.2.1 y.2.2.1 none (Cond.code y.1 y.2.1 y.2.2.1 none :: gt) { frames := d, cells := S1.1 - S.1, slots := S1.2.1 - S.2.1, locals := d * 64 } (S1.1 - S.1) (S1.2.1 - S.2.1) o.2.2.2.1 ∧ y.1.name = "<init>" ∧ (Cond.instanceMethod y.1).before args s = true := ⟨va_cnB o.2.2.2.1 hts hG rfl rfl rfl (hC.2.2.2.2.2.2.2.2.2.1.2.2.2.2.1 _ (of_decide_eq_true w1)) (hts _ (wd.is hini)) ⟨hd.1, hd.2, hpar⟩ hRo, hna, hts _ (wd.is w2)⟩
                      refine hdone _ rs rfl (va_runIN (As := ((st.take o.2.2.2.1).reverse).map (grv E)) (b := gad E a) hfix hM hcw ⟨gPc.blind, g_pre hC hH hS⟩ rfl (by simp; omega) hl.1 ?_ (lv_room (by rw [cs_map]; exact hok.2)) hdg hf)
                      show st.map (grv E) = _
                      rw [take_rev E st o.2.2.2.1, hdr]
                      rfl
                    · cases hq9
                  · cases hq9
          · rw [if_neg h1] at h hko
            cases hq9 : mStp o o ls st S I L R with
            | none => rw [hq9] at h; cases h
            | some q9 =>
              rw [hq9] at h
              have hm1 := stp_mo o o ls st S I L R q9 hq9
              have hm2 := run_mo _ _ _ _ _ _ _ _ _ _ _ h
              dsimp only at hm2
              have kk := ih _ _ _ _ _ _ _ _ _ _ _ _ _ _ h p e Rm s m args below meth c n0 u0 Q q hq hC (by omega) (by omega) hce hsl hfr hlo (by rw [hm1.1]; exact hll) hfin
              exact stp_ok o E p l e Rm s m args below meth c q.1.cls q.1.name q.2.1 q.2.2.1 q.2.2.2 n0 u0 Q pc o ls st S I L R q9 hC hko hq9 hn hu (by omega) (by omega) (by omega) (by omega) hll kk
