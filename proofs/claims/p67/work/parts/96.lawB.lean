/-! ===== the detective itself, its text, its load; then numbered cells ===== -/
theorem eL_kC (w : zW) (E : List va_E) (σ : zS) : eL (k0 w E) σ (zshL.take 261) 0 = kC (kV w E) σ := by
  apply List.ext_getElem?
  intro j
  have h : (zLs (k0 w E) (eL (k0 w E) σ (zshL.take 261) 0))[j]? = (zws (zWN (k0 w E) 261) σ)[j]? := by rw [zLs_eL (by decide +kernel)]
  have e1 : (zLs (k0 w E) (eL (k0 w E) σ (zshL.take 261) 0))[j]? = ((eL (k0 w E) σ (zshL.take 261) 0)[j]?).map (fun e => (zB (k0 w E) + j, e)) := by
    unfold zLs
    rw [List.getElem?_mapIdx]
  have e2 : (zws (zWN (k0 w E) 261) σ)[j]? = ((kC (kV w E) σ)[j]?).map (fun e => (zB (k0 w E) + j, e)) := by
    unfold zws kC
    show ((List.range 261).map _)[j]? = (((List.range 261).map _)[j]?).map _
    rw [List.getElem?_map, List.getElem?_map, Option.map_map]
    by_cases hj : j < 261
    · rw [List.getElem?_range hj]
      rfl
    · rw [List.getElem?_eq_none (by rw [List.length_range]; omega)]
      rfl
  rw [e1, e2] at h
  exact Option.map_injective (fun x y q => (Prod.mk.inj q).2) h
theorem BS_more {w : zW} {E X : List va_E} {a b m : Nat} {L : List Int} (h : BS w E a b m L) : BS w (E ++ X) a b m L := by
  obtain ⟨h1, f, h2, h3⟩ := h
  have k : ∀ (j : Nat) (x : va_E), E[j]? = some x → (E ++ X)[j]? = some x := fun j x q => by
    rw [List.getElem?_append_left (List.getElem?_eq_some_iff.mp q).1]; exact q
  exact ⟨k _ _ h1, f, k _ _ h2, h3⟩
theorem kT_of {w : zW} {E E' : List va_E} {n : Nat} {g : Nat → Int32} {σ : zS} (h : ∀ j, j < (E ++ kC (kV w E) σ).length → E'[j]? = (E ++ kC (kV w E) σ)[j]?) (h1 : E'[(E ++ kC (kV w E) σ).length]? = some (.inr (11, [.ref (zB w + ((E ++ kC (kV w E) σ).length + 1)), .int (Int32.ofInt 0), .int (Int32.ofInt 0), .int (Int32.ofInt 0)]))) (h2 : E'[(E ++ kC (kV w E) σ).length + 1]? = some (.inl (zA w 1, n, .inl g))) (hl : E'.length = (E ++ kC (kV w E) σ).length + 2) : E' = kT w E n g σ [] := by
  have el : (E ++ kC (kV w E) σ).length = E.length + 261 := by rw [List.length_append, kC_len]; rfl
  apply List.ext_getElem?
  intro j
  have e : kT w E n g σ [] = (E ++ kC (kV w E) σ) ++ [.inr (11, [.ref (zB w + (E.length + 262)), .int (Int32.ofInt 0), .int (Int32.ofInt 0), .int (Int32.ofInt 0)]), .inl (zA w 1, n, .inl g)] := by
    unfold kT
    rw [List.append_assoc]
  rw [e]
  by_cases c1 : j < (E ++ kC (kV w E) σ).length
  · rw [List.getElem?_append_left c1]; exact h j c1
  · rw [List.getElem?_append_right (by omega)]
    by_cases c2 : j = (E ++ kC (kV w E) σ).length
    · subst c2
      rw [h1, Nat.sub_self, el]; rfl
    · by_cases c3 : j = (E ++ kC (kV w E) σ).length + 1
      · subst c3
        rw [h2, show (E ++ kC (kV w E) σ).length + 1 - (E ++ kC (kV w E) σ).length = 1 by omega]; rfl
      · rw [List.getElem?_eq_none (by omega), List.getElem?_eq_none (by show 2 ≤ _; omega)]
theorem kR_app {w : zW} {E1 F : List va_E} {H : Heap} (h1 : zR w E1 H) (h2 : zR (k0 w E1) F H) : zR w (E1 ++ F) H := by
  intro k q hk
  have hz : ∀ x : va_E, (E1 ++ F)[k]? = some x → q = (zB w + k, x) := fun x hx => Option.some.inj (hk.symm.trans (zLs_at hx))
  by_cases c1 : k < E1.length
  · have hx : E1[k]? = some E1[k] := List.getElem?_eq_getElem c1
    rw [hz _ (by rw [List.getElem?_append_left c1]; exact hx)]
    exact h1 k _ (zLs_at hx)
  · have hl : k < (E1 ++ F).length := by
      have := (List.getElem?_eq_some_iff.mp hk).1
      simpa [zLs] using this
    have hx : (E1 ++ F)[k]? = some (E1 ++ F)[k] := List.getElem?_eq_getElem hl
    have hx2 : F[k - E1.length]? = some (E1 ++ F)[k] := by rw [← List.getElem?_append_right (by omega)]; exact hx
    rw [hz _ hx]
    have := h2 _ _ (zLs_at hx2)
    rw [show zB (k0 w E1) + (k - E1.length) = zB w + k by show zB w + E1.length + (k - E1.length) = _; omega] at this
    exact this
theorem kR_l {w : zW} {E1 F : List va_E} {H : Heap} (h : zR w (E1 ++ F) H) : zR w E1 H := fun k q hk => by
  have hl : k < E1.length := by
    have := (List.getElem?_eq_some_iff.mp hk).1
    simpa [zLs] using this
  have hx : E1[k]? = some E1[k] := List.getElem?_eq_getElem hl
  have e : q = (zB w + k, E1[k]) := Option.some.inj (hk.symm.trans (zLs_at hx))
  rw [e]
  exact h k _ (zLs_at (by rw [List.getElem?_append_left hl]; exact hx))
theorem kR_r {w : zW} {E1 F : List va_E} {H : Heap} (h : zR w (E1 ++ F) H) : zR (k0 w E1) F H := fun k q hk => by
  have hl : k < F.length := by
    have := (List.getElem?_eq_some_iff.mp hk).1
    simpa [zLs] using this
  have hx : F[k]? = some F[k] := List.getElem?_eq_getElem hl
  have e : q = (zB (k0 w E1) + k, F[k]) := Option.some.inj (hk.symm.trans (zLs_at hx))
  rw [e]
  have := h (E1.length + k) _ (zLs_at (e := F[k]) (by rw [List.getElem?_append_right (by omega), show E1.length + k - E1.length = k by omega]; exact hx))
  rw [show zB w + (E1.length + k) = zB (k0 w E1) + k by show _ = zB w + E1.length + k; omega] at this
  exact this
theorem zAO_v {w : zW} {E1 : List va_E} {s : State} (h : zAO w s) : zAO (k0 w E1) s := by
  have hAB : ∀ q, zAd (k0 w E1) q → zAd w q := fun q hq => ⟨Nat.le_trans (Nat.le_add_right _ _) hq.1, Or.inl h.1⟩
  exact ⟨rfl, h.2.1, ⟨h.2.2.1.1.narrow hAB, h.2.2.1.2.narrow hAB⟩, h.2.2.2.1.narrow hAB, h.2.2.2.2.narrow hAB⟩
section K96
variable {l : Launch} {w : zW} {m : zM} {M : zMo} {ini : Bool} {pc kc ks : Nat} {ls st : List zV} {E : List va_E}
theorem kk_ctorX {y : MethodName} {cc : ByteArray} {mx h n sl ix : Nat} {E1 : List va_E} {e0 : va_E} {a : Addr} {α : Type} {P : α → Prop} {F : α → List va_E} (hC : zCon l (k0 w E1) (y, cc, mx, none, []) h n sl [] e0 (zRs (k0 w E1) P F)) (ha : a = zB w + E1.length) (hd : decode m.2.1 pc = .ok (.invokespecial ix, 3)) (hw : ∀ x ∈ ([.methodLink m.1.cls ix y, .instanceMethod y, .initialized y.cls, .code y cc mx none] : List Cond), x ∈ zgood) (hm : zMok (y, cc, mx, none, []) 0) (hy : y.name = "<init>") (hst : (st.map zcat).sum ≤ 8)
    (hf : h + 1 ≤ M.1.frames ∧ 8 + (mx + 11) + 34 * h ≤ M.1.locals ∧ kc + n ≤ M.1.cells ∧ ks + sl ≤ M.1.slots) (hlen : ∀ x, (F x).length = 1 + n) (kk : ∀ x, P x → zK l w m M ini (pc + 3) ls st (kc + n) (ks + sl) (E1 ++ F x)) : zK l w m M ini pc ls (zV0 a :: st) kc ks (E1 ++ [e0]) := by
  subst ha
  intro p e s mid args below meth c C hn H locs Ls hR hS hl hol hos hsz
  obtain ⟨hx, hb, hml, hr, htab, hown, hts, hlk, hEn, hfl⟩ := id C
  have hG := zk_hG (y, cc, mx, none, []) (fun x hx => hw x (by rcases List.mem_singleton.mp hx with rfl; simp))
  have hAB : ∀ q, zAd (k0 w E1) q → zAd w q := fun q hq => ⟨Nat.le_trans (Nat.le_add_right _ _) hq.1, Or.inl hn.2.1⟩
  refine zk_pre (fun hle => ?_)
  have hHs := zk_size hR hS (fun q => by cases List.append_eq_nil_iff.mp q with | intro _ q2 => cases q2) hsz hle
  have hrun : va_Run p l e M.1 s mid args below meth c H locs kc ks n sl (F0 mid pc Ls ((zV0 (zB w + E1.length) :: st).map (zc w))) (st.map (zc w)) (zKQc (k0 w E1) (zRs (k0 w E1) P F) (Value.ref (zB w + E1.length) :: []).toArray) (zAd (k0 w E1)) := va_runI (As := []) (b := zB w + E1.length) (rest := st.map (zc w)) ⟨hx, hb, hml, hown, hts⟩ hC (cwI 0 hts hG rfl rfl rfl (hts _ (hw _ (by simp))) (hts _ (hw _ (by simp))) (hts _ (hw _ (by simp))) hy ⟨hm.1, hm.2.1, hm.2.2⟩ ⟨hf.1, hf.2.1⟩) ⟨zKPc_blind (k0 w E1) [] e0, fun U hU hW => ⟨rfl, by rw [hU]; exact kR_r hR, zEnv_v (zEnv_go hEn hW hS hU) hn.2.1 (Nat.le_add_right _ _) (by decide) (Or.inl rfl), by rw [hU, hHs, List.length_append]; exact (Nat.add_assoc _ _ _).symm, zAO_v (zAO_moved hW.alike hS hU hn.2)⟩⟩ rfl rfl hl.1 rfl (lv_room (zsum_c w hst)) hd ⟨hf.2.2.1, hf.2.2.2⟩
  intro T hT X
  obtain ⟨v, st₀, t, T', L, h0, X', hL, e1, e2, ⟨hv, ⟨x, hx, hrep⟩, hF⟩, stp⟩ := hrun T hT X
  have hv : v = none := by injection hv
  subst hv
  obtain ⟨k1, k2, k3⟩ := vx_keep (A0 := zAd w) (A1 := zAd (k0 w E1)) (free := zAd (k0 w E1)) h0 e1 hS (fun q _ h => hAB q h) (fun q h => hAB q h) hL hF
  have hR1 : zR w E1 T'.heap := fun k q hk => by
    have hq := kR_l hR k q hk
    refine hq.kept (k2 _ hq.lt (fun z => ?_))
    have hl : k < E1.length := by
      have := (List.getElem?_eq_some_iff.mp hk).1
      simpa [zLs] using this
    have hx : E1[k]? = some E1[k] := List.getElem?_eq_getElem hl
    have e : q = (zB w + k, E1[k]) := Option.some.inj (hk.symm.trans (zLs_at hx))
    have z1 : zB w + E1.length ≤ q.1 := z.1
    rw [e] at z1
    have z1 : zB w + E1.length ≤ zB w + k := z1
    omega
  obtain ⟨t2, a1, b1⟩ := kk x hx p e s mid args below meth c C hn T'.heap (locs ++ L) Ls (kR_app hR1 (by rw [e1]; exact hrep)) k3 hl hol (zok_t hos) (by rw [List.length_append, hlen]; rw [List.length_append] at hsz; have : [e0].length = 1 := rfl; omega) T' rfl X'
  exact ⟨t2, stp t2 a1, b1⟩
/-- from the list to the numbered cells -/
theorem kk_zx {b dl dk dv : Nat} {db : Nat → Int32} {v : zW} {c0 s0 : Nat} {ls' : List zV} (hv : v = zWv w b 261 1 dl dk dv db) (hdl : dl = 0) {E1 E2 : List va_E} {σ : zS} (hi : kIn w v E1 E2) (hke : kc = (E1 ++ (kC v σ ++ E2)).length) (hkc : kc ≤ c0) (hks : ks ≤ s0) (hls : zps w 0 ls = zps v 0 ls') (hok : ∀ x ∈ ls', zok v x) (hc : c0 ≤ M.1.cells) (hs : s0 ≤ M.1.slots) (kk : zX l v m (M.1, M.2.1, c0, s0) pc ls' [] 0 σ) : zK l w m M ini pc ls [] kc ks (E1 ++ (kC v σ ++ E2)) := by
  intro p e s mid args below meth c C hnK H locs Ls hR hS hl hol hos hsz
  obtain ⟨hx, hb, hml, hr, htab, hown, hts, hlk, hEn, hfl⟩ := id C
  have hD : zD v = zD w := by rw [hv]; rfl
  have hsB : s.heap.size = zB w := by omega
  have hC : zCtx l v m p s mid args meth c := ⟨hx, hb, hml, hr, htab, hown, hts, hlk, by
    rw [hv]
    refine zEnv_v hEn hnK.2.1 ?_ kV_z (Or.inl hdl)
    have := hi.1; rw [hv] at this; show zB w ≤ b; have e : zB (zWv w b 261 1 dl dk dv db) = b := rfl; omega, hfl⟩
  refine W.widen (k := c0) (n := s0) hkc hks (va_forget (fun q hq => by rw [hsB]; exact (hS.2.2 q hq).1) ?_)
  exact kk p e s mid args below meth c hC H [] Ls (kIn_rep hD hi hR) ⟨hS.1, fun q hq hn => hS.2.1 q hq (fun z => by have := z.1; omega), fun q hq => by cases hq⟩ (by rw [← hls]; exact hl) hok (fun x hx => by cases hx) hc hs
end K96
