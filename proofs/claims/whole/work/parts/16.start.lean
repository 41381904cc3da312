/-! from the law's entry: all that the Statement gives, brought into the picture -/
def SEM : Prop := ∀ (Lc : Nat) (xs : Nat → Int32), Lc ≤ 3072 → ∃ (N : Nat) (m' : Mem), f_law N Lc xs (fun _ _ => 0) = some (1, m')
abbrev gvn : Cond := Jvm.Cond.and given_1 narrow_1
theorem st_ref : strL.all (fun q => decide (Cond.stringRef q.1 q.2.1 q.2.2 ∈ lw_tbl)) = true := by decide +kernel
theorem st_nest : nestL.all (fun q => decide (Cond.methodLinkNest q.1 q.2.1 q.2.2.1 q.2.2.2 ∈ lw_tbl)) = true := by decide +kernel
theorem in_all : ∀ ci, ci < 13 → Cond.instantiable (vwC ci).1 (vwC ci).2.2 ∈ TB := by
  intro ci h
  match ci, h with
  | 0, _ => exact in_Encores_Fewest
  | 1, _ => exact in_Encores_House
  | 2, _ => exact in_Encores_Law
  | 3, _ => exact in_Encores_Moment
  | 4, _ => exact in_Encores_Past
  | 5, _ => exact in_Encores_Programme
  | 6, _ => exact in_Encores_Reader
  | 7, _ => exact in_Encores_Seats
  | 8, _ => exact in_Encores_Stage
  | 9, _ => exact in_Encores_Table
  | 10, _ => exact in_Encores_Tape
  | 11, _ => exact in_Encores
  | 12, _ => exact in_EncoresModel
theorem vwCl_len {c : Nat} {q : vw_C} (h : vwCl[c]? = some q) : c < 13 ∧ q = vwC c := by
  have h1 : c < vwCl.length := (List.getElem?_eq_some_iff.mp h).1
  have h2 : c < 13 := h1
  exact ⟨h2, Option.some.inj (h.symm.trans (kc c h2).1)⟩
def sgm (b hp fm : Nat) (adK adV : Nat → Nat) (j : Nat) : Nat := if j = 3000 then b else if j = 2000 then hp else if j = 2001 then fm else if 1100 ≤ j then adV (j - 1100) else adK (j - 1000)
theorem sgm_k {b hp fm : Nat} {adK adV : Nat → Nat} {i : Nat} (h : i < 100) : sgm b hp fm adK adV (1000 + i) = adK i := by
  unfold sgm
  rw [if_neg (by omega), if_neg (by omega), if_neg (by omega), if_neg (by omega), Nat.add_sub_cancel_left]
theorem sgm_v {b hp fm : Nat} {adK adV : Nat → Nat} {i : Nat} (h : i < 100) : sgm b hp fm adK adV (1100 + i) = adV i := by
  unfold sgm
  rw [if_neg (by omega), if_neg (by omega), if_neg (by omega), if_pos (by omega), Nat.add_sub_cancel_left]
theorem vk_Sagr {N : Nat} {len : List Nat} {byt : List (List Int32)} {adK adV adK' adV' : Nat → Nat} {A : Nat → Prop} {U : State} {H : Heap} (hk : ∀ i, i < N → adK' i = adK i) (hv : ∀ i, i < N → adV' i = adV i) (h : vk_S N len byt adK adV A U H) : vk_S N len byt adK' adV' A U H := by
  refine ⟨fun i hi => ?_, fun i j hi hj e => h.2 i j hi hj (by rw [hk i hi, hk j hj] at e; exact e)⟩
  rw [hk i hi, hv i hi]
  exact h.1 i hi
theorem csz_SG : csz SG = 138 := by decide +kernel
theorem ssz_SG : ssz SG ≤ 7302250 := by decide +kernel
set_option maxHeartbeats 4000000 in
theorem whole_of (hsem : SEM) {p : Program} {e : Env} {s : State} {m : MethodId} {below : List Frame} {meth : Method} {c : Code} (l : Launch) {b L : Nat} {xs : Nat → Int32} (hL : L ≤ 3072) (C0 : lw_At p s m meth c b L xs) : W p l e room_1 s m #[Value.ref b] below meth c s.heap [] 0 0 (lw_Z below #[Value.ref b] s) (entryFrame m ([Value.ref b] : List Value).toArray 4) := by
  obtain ⟨hx, hb, hr, hml, hown, hts, hX, hbl, hlocks, hgv⟩ := id C0
  obtain ⟨N, m', hfin⟩ := hsem L xs hL
  have hA : ∀ q : Nat, s.heap.size ≤ q → (fun q : Nat => s.heap.size ≤ q) q := fun _ h => h
  have hAn : ∀ a : Nat, a < s.heap.size → ¬ (fun q : Nat => s.heap.size ≤ q) a := fun a h => Nat.not_le.mpr h
  have hg := flat_of_before gvn hgv
  have hTB : ∀ w ∈ TB, w.before #[Value.ref b] s = true := fun w hw => hts w (tb_in hw)
  obtain ⟨adK, adV, hvS, hvT⟩ := vk_Sof (args := #[Value.ref b]) (s := s) (N := strN) (tm := tmS) (len := strLen) (byt := strByt) (A := fun q : Nat => s.heap.size ≤ q) (by decide +kernel) (fun i hi => hg _ (gv_ex i hi)) (fun i hi => hg _ (gv_co i hi)) (fun i hi => hg _ (gv_ar i hi)) (fun i hi => hg _ (gv_le i hi))
    (fun i hi j hj => hg _ (gv_el i hi j hj))
    (fun i j hi hj hij => by
      rcases Nat.lt_or_ge i j with h | h
      · exact Or.inl (hg _ (gv_ne i hi j hj h))
      · exact Or.inr (hg _ (gv_ne j hj i hi (by omega)))) hAn
  have hcs := va_Zof (A := fun q : Nat => s.heap.size ≤ q) (hts (.laysStatic "java/lang/String" "COMPACT_STRINGS" "Z") (by decide +kernel)) (hts (.initialized "java/lang/String") (by decide +kernel)) (va_eqi (hg _ gv_cs)) hAn
  have hfm := va_Zqof (A := fun q : Nat => s.heap.size ≤ q) (hts (.laysStatic "jdk/internal/util/Preconditions" "SIOOBE_FORMATTER" "Ljava/util/function/BiFunction;") (by decide +kernel)) (hts (.initialized "jdk/internal/util/Preconditions") (by decide +kernel)) (hg _ gv_fm) hAn
  obtain ⟨hp, hht, hhT⟩ := va_Tof (args := #[Value.ref b]) (s := s) (tm := .static "Encores" "HEAP" "[I") (ty := .int) (N := 7) (f := fun j => .int (heapL.getD j 0)) (A := fun q : Nat => s.heap.size ≤ q) (by decide) (hg _ gv_ha) (va_eqv (hg _ gv_hl) rfl)
    (fun j hj => va_eqv (hg _ (gv_he j hj)) rfl) hAn
  have hhZ := va_Zref (A := fun q : Nat => s.heap.size ≤ q) (hts (.laysStatic "Encores" "HEAP" "[I") (by decide +kernel)) (hts (.initialized "Encores") (by decide +kernel)) hht hAn
  obtain ⟨fm, hfm⟩ : ∃ fm : Nat, va_Z "jdk/internal/util/Preconditions" "SIOOBE_FORMATTER" "Ljava/util/function/BiFunction;" .null (fun q : Nat => s.heap.size ≤ q) s s.heap ∨ va_Z "jdk/internal/util/Preconditions" "SIOOBE_FORMATTER" "Ljava/util/function/BiFunction;" (.ref fm) (fun q : Nat => s.heap.size ≤ q) s s.heap := by
    rcases hfm with h | ⟨t, h⟩
    · exact ⟨0, Or.inl h⟩
    · exact ⟨t, Or.inr h⟩
  have hkn : ∀ ci, ∃ (cC : ClassId) (iS : Nat → Nat), ci < 13 → u_Kn s (vwC ci).1 (vwC ci).2.1 (vwC ci).2.2 cC iS := by
    intro ci
    by_cases hci : ci < 13
    · obtain ⟨cC, iS, h⟩ := u_known hTB (kc ci hci).2.1 (hTB _ (in_all ci hci))
      exact ⟨cC, iS, fun _ => h⟩
    · exact ⟨0, fun _ => 0, fun h => absurd h hci⟩
  obtain ⟨cI, kI, compI, i1, i2, i3⟩ := Cond.arrayClass_spec (hTB _ ac_int)
  obtain ⟨compM, cM, kM, m1, -, m3, m4, m5⟩ := Cond.arrayOver_spec (hts (.arrayOver (.object "Encores$Moment")) (by decide +kernel))
  obtain ⟨D, hD1, hD2, hD3⟩ : ∃ D : va_G, (∀ ci, ci < 13 → u_Kn s (vwC ci).1 (vwC ci).2.1 (vwC ci).2.2 (D.1 ci) (D.2 ci)) ∧ D.1 100 = cI ∧ D.1 101 = cM := by
    refine ⟨(fun k => if k = 100 then cI else if k = 101 then cM else Classical.choose (hkn k), fun k => Classical.choose (Classical.choose_spec (hkn k))), fun ci hci => ?_, rfl, rfl⟩
    have := Classical.choose_spec (Classical.choose_spec (hkn ci)) hci
    show u_Kn s _ _ _ (if ci = 100 then cI else if ci = 101 then cM else _) _
    rw [if_neg (by omega), if_neg (by omega)]
    exact this
  have hK : va_K D vwCl (tys0 D) s := by
    refine ⟨fun k q hq => ?_, fun k q hq => ?_⟩
    · obtain ⟨hk, rfl⟩ := vwCl_len hq
      exact hD1 k hk
    · match k, hq with
      | 0, hq =>
        cases hq
        rw [hD2]
        exact ⟨fun n z => ⟨fun k h => (by cases h), kI, i2, compI, i3⟩, i1⟩
      | 1, hq =>
        cases hq
        rw [hD3]
        exact ⟨fun n z => ⟨fun k h => (by cases h), kM, m3, compM, m4⟩, kM, compM, m3, m4, m1, m5⟩
      | k + 2, hq => simp at hq
  have hσ : ∃ σ : Nat → Nat, σ 3000 = b ∧ σ 2000 = hp ∧ σ 2001 = fm ∧ (∀ i, i < strN → σ (1000 + i) = adK i) ∧ (∀ i, i < strN → σ (1100 + i) = adV i) := by
    have hN : strN ≤ 100 := by decide
    exact ⟨sgm b hp fm adK adV, rfl, rfl, rfl, fun i hi => sgm_k (by omega), fun i hi => sgm_v (by omega)⟩
  obtain ⟨σ, s1, s2, s3, s4, s5⟩ := hσ
  have hZ : Zs (some (L, xs)) σ (fun q : Nat => s.heap.size ≤ q) s s.heap := by
    refine ⟨⟨vk_Sagr s4 s5 hvS, hcs, by rw [s3]; exact hfm, by rw [s2]; exact hhZ, by rw [s2]; exact hhT⟩, fun q hq => ?_⟩
    cases hq
    rw [s1]
    exact ⟨hX, Nat.not_le.mpr hbl, hbl⟩
  have hV : Vk σ s := by
    intro i q hq
    have hi : i < strN := (List.getElem?_eq_some_iff.mp hq).1
    have h1 := hts _ (of_decide_eq_true (List.all_eq_true.mp st_ref q (List.mem_of_getElem? hq)))
    have h2 := hvT i hi
    unfold tmS at h2
    rw [hq] at h2
    rw [s4 i hi]
    exact vk_R.of h1 h2
  have hN : Nw s := ⟨fun q hq => va_Nw.of rfl (hts _ (of_decide_eq_true (List.all_eq_true.mp st_nest q hq))), va_Nw.of rfl (hts (.fieldLinkNest "Encores$Programme" 51 "Encores" "HEAP" "[I" "Encores") (by decide +kernel)), va_AO.of (hts (.arrayOver (.object "Encores$Moment")) (by decide +kernel))⟩
  have hin : "law" = "<init>" → meth.name = "<init>" := fun h => absurd h (by decide)
  have hl := lv_entry ([.ref b]) (n := 4) (Nat.le_of_ble_eq_true rfl)
  rw [lg_entry_eq]
  have hLv : lvR σ ((lg_sl ([.ref b]) ++ List.replicate (4 - (lg_sl ([.ref b])).length) Slot.unset).toArray) 4 [some (.ref 3000), none, none, none] := by
    refine ⟨hl.1, hl.2.1, fun i v hi => ?_⟩
    match i, hi with
    | 0, hi =>
      cases hi
      have := hl.2.2 (0, .ref b) List.mem_cons_self
      rw [this]
      simp [av, s1]
    | 1, hi => cases hi
    | 2, hi => cases hi
    | 3, hi => cases hi
    | i + 4, hi => simp at hi
  have hok := ok_law N 100 L xs (fun _ _ => 0) 1 m' hfin p l e room_1 s m #[Value.ref b] below meth c s.heap [] 0 0 (lw_Z below #[Value.ref b] s) D σ (fun q : Nat => s.heap.size ≤ q) (csz SG) (ssz SG) _ ⟨hx, hb, hml, hown, hTB, hK, hin, hV, hN⟩ hZ hA ⟨by decide, by decide, by rw [csz_SG]; decide, ssz_SG⟩ (fun k q h => by simp [wd] at h) ⟨fun i j p q h => by simp [wd] at h, fun k q h => by simp [wd] at h⟩ va_S.rf hLv (by simp [csz]) (by simp [ssz])
  refine hok ?_
  intro H' locs' ls' σ' pcr ha hP' hD' hS'
  refine ⟨fun h => (by cases h), fun ty hty _ _ hd => ?_, fun nm h => (by cases h)⟩
  refine va_forget (hS'.2.2) (W.widen (k := 600000) (n := 7302250) (by rw [csz_SG]; decide) ssz_SG ?_)
  exact lw_ret hx hb hr hlocks hd
