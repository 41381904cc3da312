/-! a deed done once -/
section ONCE
variable {h h' h2 : DS} {t N d hh b c o : Nat} {p : Plc} {w w' : Arr} {dl : Option (Nat → Int32)} {LN : List Lin} {v x a2 : Int32} {lb lb' : Nat → Nat × Nat × Nat} {tru cg : Bool}
theorem HLb.ext (HR : HouR h t p w dl) (B : HLb lb t p w) (lbo : ∀ c, c < h.2.1.length → lb' c = lb c) : HLb lb' t p w := by
  obtain ⟨b0, b1, b2, b3, b4, b5, b6, b7, b8, b9, b10, b11, b12⟩ := B
  have lR : ∀ {i m k : Nat} {r : Nat → Nat} {aa zz : Nat} {f : Nat → Nat → Int32}, RwH h aa m k r zz f → i < zz → r i < h.2.1.length := fun R hi => by
    obtain ⟨⟨rs, q⟩, -⟩ := R.2 _ hi
    exact len_of q
  have lA : ∀ {m k : Nat} {r : Nat → Nat} {aa zz : Nat} {f : Nat → Nat → Int32}, RwH h aa m k r zz f → aa < h.2.1.length := fun R => by
    obtain ⟨⟨rs, q, -⟩, -⟩ := R
    exact len_of q
  unfold HLb
  refine ⟨(lbo _ (len_of HR.ob)).trans b0, (lbo _ (lA HR.man)).trans b1, (lbo _ (lA HR.dee)).trans b2, (lbo _ (lA HR.lin)).trans b3, fun i hi => (lbo _ (lR HR.man hi)).trans (b4 i hi), fun i hi => (lbo _ (lR HR.dee hi)).trans (b5 i hi), fun i hi => ?_, fun i hi => ?_, fun i hi => ?_, ?_, ?_, ?_, fun r hr => ?_⟩
  · rw [lbo _ (lR HR.lin hi)]; exact b6 i hi
  · rw [lbo _ (lR HR.han hi)]; exact b7 i hi
  · rw [lbo _ (lR HR.pro hi)]; exact b8 i hi
  · rw [lbo _ (lA HR.han)]; exact b9
  · rw [lbo _ (lA HR.pro)]; exact b10
  · obtain ⟨⟨rs, q⟩, -⟩ := HR.bes
    rw [lbo _ (len_of q)]; exact b11
  · have hlw := HR.law
    rw [hr] at hlw
    cases dl with
    | none => exact hlw.elim
    | some dv =>
      obtain ⟨⟨rs, q⟩, -⟩ := hlw
      rw [lbo _ (len_of q)]
      exact b12 r hr
theorem hs_grow (H : HS lb h t p w dl) (hn : h.2.1.length + 1 < 1000000) : HS (fun c => if c = h.2.1.length then (t, 6, 0) else lb c) (grown h (100, 12, []) (fun _ => 0)) t p w dl ∧ KpH lb t h (grown h (100, 12, []) (fun _ => 0)) := by
  have k : ∀ u, KpH lb u h (grown h (100, 12, []) (fun _ => 0)) := fun u => ⟨rfl, by rw [gw_len]; exact Nat.le_succ _, fun c hc _ => ⟨gw_old hc, gw_mo hc⟩⟩
  have hl := lk_len H.2.2.1
  refine ⟨⟨H.1.keep H.2.1 (k (t + 1)) (by omega) (by omega), HLb.ext H.1 H.2.1 (fun c hc => if_neg (by omega)) , lk_gr H.2.2.1 hn (fun j q hq => by simp at hq), fun c hc => ?_⟩, k t⟩
  dsimp only
  rw [if_neg (by omega)]
  exact H.2.2.2 c hc
theorem x_wI {j k : Nat} (H : HS lb h t p w dl) (hj : j < 25) (hr : isR 12 j = false) (hz : zs w ≤ 16) (hk : k < 6) (hI : HouI (h.1, h.2.1, mset h.2.2 t j x) t (upd w k x)) : ∃ h1, wI h t 12 j x = some h1 ∧ HS lb h1 t p (upd w k x) dl ∧ KpH lb t h h1 ∧ h1.2.1 = h.2.1 :=
  ⟨_, (h_wI H hj hr hz hk hI).1, (h_wI H hj hr hz hk hI).2.1, (h_wI H hj hr hz hk hI).2.2, rfl⟩
theorem x_wS {j : Nat} (H : HS lb h t p w dl) (hj : j < 25) (hj2 : 22 ≤ j) (hr : isR 12 j = false) (hz : zs w ≤ 16) : ∃ h1, wI h t 12 j x = some h1 ∧ HS lb h1 t p w dl ∧ KpH lb t h h1 ∧ h1.2.1 = h.2.1 ∧ h1.2.2 t j = x ∧ (∀ i, i ≠ j → h1.2.2 t i = h.2.2 t i) ∧ ∀ c, c ≠ t → h1.2.2 c = h.2.2 c :=
  ⟨_, (h_wS H hj hj2 hr hz).1, (h_wS H hj hj2 hr hz).2.1, (h_wS H hj hj2 hr hz).2.2, rfl, mset_at _ _ _ _, fun _ hi => mset_j hi, fun _ hc => mset_ne hc⟩
theorem x_wD (H : HS lb h t p w dl) (W0 : WFc w) (hd : d < zd w) (hc : c < 5) : ∃ h1, sA h 100 (p.2.2.1 d) (nI c) x = some h1 ∧ HS lb h1 t p (upd w (deeI c + d) x) dl ∧ KpH lb t h h1 ∧ h1.2.1 = h.2.1 :=
  ⟨_, (h_wD H W0 hd hc).1, (h_wD H W0 hd hc).2.1, (h_wD H W0 hd hc).2.2, rfl⟩
theorem h_drawsT {K : DS → DA} {Q : Int32 → DS → Prop} (hN : 20000 ≤ N) (H : HS lb h t p w dl) (W0 : WFc w) (ho : lb o = (t, 6, 0)) (hge : 123 ≤ o) (ho2 : h.2.1[o]? = some (100, 12, []))
    (hK : ∀ h', HS lb h' t p (dwS tru w) dl → KpH lb t h h' → h'.2.1 = h.2.1 → (∀ i, i < zh w → (zt w).testBit i = true → h'.2.2 o i = drvS tru w i) → Wd (K h') Q) :
    Wd (jt (fun Y a hz => g_X12_once_L95 N t (nI d) (b2i tru) o K Y a hz) N (0 : Int32) h) Q := by
  cases tru with
  | true => exact h_draws hN H W0 ho ho2 hK
  | false => exact h_draws0 hN H W0 ho hge ho2 hK
theorem sumS_cg {set : Nat} (hz : zs w ≤ 16) (hw : ∀ i, i ≠ 5 → w' i = w i) : ∀ n, sumS w' set n = sumS w set n
  | 0 => rfl
  | n + 1 => by
    unfold sumS
    rw [sumS_cg hz hw n, hw (45 + n) (by omega), cnt_cg (fun i hi => hw i (by omega)) hz]
theorem loudS_cg (hw : ∀ i, i ≠ 5 → w' i = w i) : loudS LN w' d = loudS LN w d := by
  unfold loudS
  rw [facD_cg (w := w) (hw _ (by omega)) (hw _ (by omega)) (hw _ (by omega)) (hw _ (by omega)), hw _ (by omega)]
end ONCE
