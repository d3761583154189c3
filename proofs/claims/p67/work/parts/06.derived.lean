/-! derived rules, in the form in which a program lays them -/
section ZY
variable {l : Launch} {w : zW} {m : zM} {M : zMo} {pc k : Nat} {ls st : List zV} {σ : zS}
def zret (v : zV) (τ0 : zS) : zQ := fun o τ => o = .inl (some v) ∧ τ = τ0
def zrtv (τ0 : zS) : zQ := fun o τ => o = .inl none ∧ τ = τ0
def zthr (E : String) (τ0 : zS) : zQ := fun o τ => o = .inr E ∧ τ = τ0
def zOK (σ : zS) : Prop := ∀ k i, zr (σ.1 k i)
theorem zOK_put {k i : Nat} {v : Int} (h : zOK σ) (hv : zr v) : zOK (zput σ k i v) := by
  intro k' i'
  unfold zput
  show zr (if k' = k ∧ i' = i then v else σ.1 k' i')
  split
  · exact hv
  · exact h _ _
theorem zOK_cpy {q0 q1 n : Nat} (h : zOK σ) : zOK (zcpy σ q0 q1 n) := by
  intro k' i'
  unfold zcpy
  show zr (if k' = q1 ∧ i' < n then σ.1 q0 i' else σ.1 k' i')
  split
  · exact h _ _
  · exact h _ _
noncomputable def zb (p : Prop) : Int := @ite Int p (Classical.propDecidable p) 1 0
theorem zb_t {p : Prop} (h : p) : zb p = 1 := by unfold zb; rw [if_pos h]
theorem zb_f {p : Prop} (h : ¬ p) : zb p = 0 := by unfold zb; rw [if_neg h]
theorem zb_0 {p : Prop} : zb p = 0 ↔ ¬ p := ⟨fun h hp => (by rw [zb_t hp] at h; cases h), zb_f⟩
theorem zb_n {p : Prop} : ¬ zb p = 0 ↔ p := ⟨fun h => Classical.byContradiction fun hp => h (zb_f hp), fun hp h => (by rw [zb_t hp] at h; cases h)⟩
theorem zb_c {p q : Prop} (h : p ↔ q) : zb p = zb q := by rw [propext h]
theorem zb_01 (p : Prop) : zb p = 0 ∨ zb p = 1 := by
  by_cases h : p
  · exact Or.inr (zb_t h)
  · exact Or.inl (zb_f h)
theorem zr_b (p : Prop) : zr (zb p) := by
  rcases zb_01 p with h | h <;> rw [h] <;> exact ⟨by omega, by omega⟩
theorem zb_nar (p : Prop) : narrow .boolean (.int (Int32.ofInt (zb p))) = .int (Int32.ofInt (zb p)) := by
  rcases zb_01 p with h | h <;> rw [h] <;> rfl
theorem zb_nar01 {a : Int} (h : a = 0 ∨ a = 1) : narrow .boolean (.int (Int32.ofInt a)) = .int (Int32.ofInt a) := by
  rcases h with h | h <;> rw [h] <;> rfl
theorem zmem1 {x : Cond} (i : Nat) (h : lw_tbl[i]? = some x) (g : goodWord x = true) : x ∈ zgood := List.mem_filter.mpr ⟨List.mem_of_getElem? h, g⟩
theorem zy_getI {t q i ix : Nat} {v : Int} (hf : zFl m.1.cls ix t i) (hk : zfk t i = none) (hd : decode m.2.1 pc = .ok (.getfield ix, 3)) (hv : σ.1 q i = v) (kk : zX l w m M (pc + 3) ls (zi v :: st) k σ) : zX l w m M pc ls (zf t q :: st) k σ := zx_getI hf hk hd (by rw [hv]; exact kk)
theorem zy_getR {t q i ix t' o q' : Nat} (hf : zFl m.1.cls ix t i) (hk : zfk t i = some (t', o)) (hd : decode m.2.1 pc = .ok (.getfield ix, 3)) (hq : q + o = q') (kk : zX l w m M (pc + 3) ls (zf t' q' :: st) k σ) : zX l w m M pc ls (zf t q :: st) k σ := zx_getR hf hk hd (by rw [hq]; exact kk)
theorem zy_iald {t q n : Nat} {a v : Int} (ha : zar t = (0, n)) (ht : ¬ t < 20) (hn : n < 2147483648) (hd : decode m.2.1 pc = .ok (.iaload, 1)) (h0 : 0 ≤ a) (h1 : a < (n : Int)) (hv : σ.1 q a.toNat = v) (kk : zX l w m M (pc + 1) ls (zi v :: st) k σ) : zX l w m M pc ls (zi a :: zf t q :: st) k σ := zx_iald ha ht h0 h1 hn hd (by rw [hv]; exact kk)
theorem zy_bald {t q n : Nat} {a v : Int} (ha : zar t = (1, n)) (ht : ¬ t < 20) (hn : n < 2147483648) (hd : decode m.2.1 pc = .ok (.baload, 1)) (h0 : 0 ≤ a) (h1 : a < (n : Int)) (hv : σ.1 q a.toNat = v) (kk : zX l w m M (pc + 1) ls (zi v :: st) k σ) : zX l w m M pc ls (zi a :: zf t q :: st) k σ := zx_bald ha ht h0 h1 hn hd (by rw [hv]; exact kk)
theorem zy_zald {t q n : Nat} {a v : Int} (ha : zar t = (2, n)) (ht : ¬ t < 20) (hn : n < 2147483648) (hd : decode m.2.1 pc = .ok (.baload, 1)) (h0 : 0 ≤ a) (h1 : a < (n : Int)) (hv : σ.1 q a.toNat = v) (kk : zX l w m M (pc + 1) ls (zi v :: st) k σ) : zX l w m M pc ls (zi a :: zf t q :: st) k σ := zx_zald ha ht h0 h1 hn hd (by rw [hv]; exact kk)
theorem zy_iast {t q n i : Nat} {a v : Int} (ha : zar t = (0, n)) (ht : ¬ t < 20) (hn : n < 2147483648) (hd : decode m.2.1 pc = .ok (.iastore, 1)) (h0 : 0 ≤ a) (h1 : a < (n : Int)) (hi : a.toNat = i) (kk : zX l w m M (pc + 1) ls st k (zput σ q i v)) : zX l w m M pc ls (zi v :: zi a :: zf t q :: st) k σ := zx_iast ha ht h0 h1 hn hd (by rw [hi]; exact kk)
theorem zy_bast {t q n i : Nat} {a v u : Int} (ha : zar t = (1, n)) (ht : ¬ t < 20) (hn : n < 2147483648) (hd : decode m.2.1 pc = .ok (.bastore, 1)) (h0 : 0 ≤ a) (h1 : a < (n : Int)) (hi : a.toNat = i) (hv : zb8 v = u) (kk : zX l w m M (pc + 1) ls st k (zput σ q i u)) : zX l w m M pc ls (zi v :: zi a :: zf t q :: st) k σ := zx_bast ha ht h0 h1 hn hd (by rw [hi, hv]; exact kk)
theorem zy_zast {t q n i : Nat} {a v : Int} (ha : zar t = (2, n)) (ht : ¬ t < 20) (hn : n < 2147483648) (hd : decode m.2.1 pc = .ok (.bastore, 1)) (hv : v = 0 ∨ v = 1) (h0 : 0 ≤ a) (h1 : a < (n : Int)) (hi : a.toNat = i) (kk : zX l w m M (pc + 1) ls st k (zput σ q i v)) : zX l w m M pc ls (zi v :: zi a :: zf t q :: st) k σ := zx_zast ha ht hv h0 h1 hn hd (by rw [hi]; exact kk)
theorem zy_aald {q q' : Nat} {a : Int} (hd : decode m.2.1 pc = .ok (.aaload, 1)) (h0 : 0 ≤ a) (h1 : a < 9) (hq : q + 1 + 20 * a.toNat = q') (kk : zX l w m M (pc + 1) ls (zf 1 q' :: st) k σ) : zX l w m M pc ls (zi a :: zf 26 q :: st) k σ := zx_aald h0 h1 hd (by rw [hq]; exact kk)
theorem zy_istoreN {j : Nat} {f : Fin 4} {a : Int} (ls' : List zV) (hd : decode m.2.1 pc = .ok (.istore_n f, 1)) (hf : (f : Nat) = j) (hj : j < ls.length) (hn : j < m.2.2.1) (hp : zprev ls j = true) (hs : ls.set j (zi a) = ls') (kk : zX l w m M (pc + 1) ls' st k σ) : zX l w m M pc ls (zi a :: st) k σ := zx_istoreN hd hf hj hn hp (by rw [hs]; exact kk)
theorem zy_istore {j : Nat} {a : Int} (ls' : List zV) (hd : decode m.2.1 pc = .ok (.istore j, 2)) (hj : j < ls.length) (hn : j < m.2.2.1) (hp : zprev ls j = true) (hs : ls.set j (zi a) = ls') (kk : zX l w m M (pc + 2) ls' st k σ) : zX l w m M pc ls (zi a :: st) k σ := zx_istore hd hj hn hp (by rw [hs]; exact kk)
theorem zy_astoreN {j t i : Nat} {f : Fin 4} (ls' : List zV) (hd : decode m.2.1 pc = .ok (.astore_n f, 1)) (hf : (f : Nat) = j) (hj : j < ls.length) (hn : j < m.2.2.1) (hp : zprev ls j = true) (hs : ls.set j (zf t i) = ls') (kk : zX l w m M (pc + 1) ls' st k σ) : zX l w m M pc ls (zf t i :: st) k σ := zx_astoreN hd hf hj hn hp (by rw [hs]; exact kk)
theorem zy_iinc {j : Nat} {n a b : Int} (ls' : List zV) (hd : decode m.2.1 pc = .ok (.iinc j n, 3)) (hj : ls[j]? = some (zi a)) (hb : a + n = b) (hn : j < m.2.2.1) (hp : zprev ls j = true) (hs : ls.set j (zi b) = ls') (kk : zX l w m M (pc + 3) ls' st k σ) : zX l w m M pc ls st k σ := zx_iinc hd hj hb hn hp (by rw [hs]; exact kk)
theorem zy_drop (j : Nat) (ls' : List zV) (hs : ls.set j zu = ls') (kk : zX l w m M pc ls' st k σ) : zX l w m M pc ls st k σ := by
  subst hs
  refine zx_forget (ls.set j zu) (fun q hq => ?_) (fun x hx => ?_) kk
  · obtain ⟨i, x, h1, h2, h3⟩ := zps_mem.mp hq
    by_cases hi : i = j
    · subst hi
      by_cases hl : i < ls.length
      · rw [List.getElem?_set_self hl] at h1
        cases h1
        cases h2
      · rw [List.getElem?_eq_none (by simpa using Nat.le_of_not_lt hl)] at h1
        cases h1
    · rw [List.getElem?_set_ne (fun q => hi q.symm)] at h1
      exact zps_mem.mpr ⟨i, x, h1, h2, h3⟩
  · rcases List.mem_or_eq_of_mem_set hx with h1 | h1
    · exact Or.inr h1
    · exact Or.inl h1
/-- the value on top by another name -/
theorem zy_top {a b : Int} (h : a = b) (kk : zX l w m M pc ls (zi b :: st) k σ) : zX l w m M pc ls (zi a :: st) k σ := by rw [h]; exact kk
theorem zy_st {τ : zS} (h : σ = τ) (kk : zX l w m M pc ls st k τ) : zX l w m M pc ls st k σ := by rw [h]; exact kk
/-- calls that answer v, behind which the memory is τ0 -/
theorem zy_cv {m' : zM} {h' n' ix t q np : Nat} (as : List zV) {v : zV} {τ0 : zS} (hsp : Sp l w m' h' n' (zf t q :: as) σ (zret v τ0)) (hd : decode m.2.1 pc = .ok (.invokevirtual ix, 3)) (ht : t < 20) (hcl : (vwCl[t]?).map (fun q => q.1) = some m'.1.cls) (hw : zCwV m.1.cls ix m') (hm : zMok m' np) (hnp : as.length = np) (hst : (st.map zcat).sum ≤ 8) (hf : zfit M m' h' n' k)
    (kk : zX l w m M (pc + 3) ls (v :: st) (k + n') τ0) : zX l w m M pc ls (as.reverse ++ zf t q :: st) k σ :=
  zx_callV hsp hd ht hcl hw hm hnp hst hf (fun r τ hq => by obtain ⟨h1, rfl⟩ := hq; cases h1; exact kk) (fun E τ hq => by cases hq.1)
theorem zy_cvv {m' : zM} {h' n' ix t q np : Nat} (as : List zV) {τ0 : zS} (hsp : Sp l w m' h' n' (zf t q :: as) σ (zrtv τ0)) (hd : decode m.2.1 pc = .ok (.invokevirtual ix, 3)) (ht : t < 20) (hcl : (vwCl[t]?).map (fun q => q.1) = some m'.1.cls) (hw : zCwV m.1.cls ix m') (hm : zMok m' np) (hnp : as.length = np) (hst : (st.map zcat).sum ≤ 8) (hf : zfit M m' h' n' k)
    (kk : zX l w m M (pc + 3) ls st (k + n') τ0) : zX l w m M pc ls (as.reverse ++ zf t q :: st) k σ :=
  zx_callV hsp hd ht hcl hw hm hnp hst hf (fun r τ hq => by obtain ⟨h1, rfl⟩ := hq; cases h1; exact kk) (fun E τ hq => by cases hq.1)
theorem zy_cvt {m' : zM} {h' n' ix t q np : Nat} (as : List zV) {E0 : String} {τ0 : zS} (hsp : Sp l w m' h' n' (zf t q :: as) σ (zthr E0 τ0)) (hd : decode m.2.1 pc = .ok (.invokevirtual ix, 3)) (ht : t < 20) (hcl : (vwCl[t]?).map (fun q => q.1) = some m'.1.cls) (hw : zCwV m.1.cls ix m') (hm : zMok m' np) (hnp : as.length = np) (hst : (st.map zcat).sum ≤ 8) (hf : zfit M m' h' n' k)
    (kk : zXT l w m M pc ls (k + n') τ0 E0) : zX l w m M pc ls (as.reverse ++ zf t q :: st) k σ :=
  zx_callV hsp hd ht hcl hw hm hnp hst hf (fun r τ hq => by cases hq.1) (fun E τ hq => by obtain ⟨h1, rfl⟩ := hq; cases h1; exact kk)
theorem zy_cs {m' : zM} {h' n' ix np : Nat} (as : List zV) {v : zV} {τ0 : zS} (hsp : Sp l w m' h' n' as σ (zret v τ0)) (hd : decode m.2.1 pc = .ok (.invokestatic ix, 3)) (hw : zCwS m.1.cls ix m') (hm : zMok m' np) (hnp : as.length = np) (hst : (st.map zcat).sum ≤ 8) (hf : zfit M m' h' n' k)
    (kk : zX l w m M (pc + 3) ls (v :: st) (k + n') τ0) : zX l w m M pc ls (as.reverse ++ st) k σ :=
  zx_callS hsp hd hw hm hnp hst hf (fun r τ hq => by obtain ⟨h1, rfl⟩ := hq; cases h1; exact kk) (fun E τ hq => by cases hq.1)
theorem zy_csv {m' : zM} {h' n' ix np : Nat} (as : List zV) {τ0 : zS} (hsp : Sp l w m' h' n' as σ (zrtv τ0)) (hd : decode m.2.1 pc = .ok (.invokestatic ix, 3)) (hw : zCwS m.1.cls ix m') (hm : zMok m' np) (hnp : as.length = np) (hst : (st.map zcat).sum ≤ 8) (hf : zfit M m' h' n' k)
    (kk : zX l w m M (pc + 3) ls st (k + n') τ0) : zX l w m M pc ls (as.reverse ++ st) k σ :=
  zx_callS hsp hd hw hm hnp hst hf (fun r τ hq => by obtain ⟨h1, rfl⟩ := hq; cases h1; exact kk) (fun E τ hq => by cases hq.1)
theorem zy_cst {m' : zM} {h' n' ix np : Nat} (as : List zV) {E0 : String} {τ0 : zS} (hsp : Sp l w m' h' n' as σ (zthr E0 τ0)) (hd : decode m.2.1 pc = .ok (.invokestatic ix, 3)) (hw : zCwS m.1.cls ix m') (hm : zMok m' np) (hnp : as.length = np) (hst : (st.map zcat).sum ≤ 8) (hf : zfit M m' h' n' k)
    (kk : zXT l w m M pc ls (k + n') τ0 E0) : zX l w m M pc ls (as.reverse ++ st) k σ :=
  zx_callS hsp hd hw hm hnp hst hf (fun r τ hq => by cases hq.1) (fun E τ hq => by obtain ⟨h1, rfl⟩ := hq; cases h1; exact kk)
theorem zy_cn {m' : zM} {h' n' ix np : Nat} (as : List zV) {v : zV} {τ0 : zS} (hsp : Sp l w m' h' n' as σ (zret v τ0)) (hd : decode m.2.1 pc = .ok (.invokestatic ix, 3)) (hw : zCwN m.1.cls ix m') (hm : zMok m' np) (hnp : as.length = np) (hst : (st.map zcat).sum ≤ 8) (hf : zfit M m' h' n' k)
    (kk : zX l w m M (pc + 3) ls (v :: st) (k + n') τ0) : zX l w m M pc ls (as.reverse ++ st) k σ :=
  zx_callN hsp (fun E τ hq => by cases hq.1) hd hw hm hnp hst hf (fun r τ hq => by obtain ⟨h1, rfl⟩ := hq; cases h1; exact kk)
/-- a call by what it says of its answer and of the memory -/
theorem zy_cvq {m' : zM} {h' n' ix t q np : Nat} (as : List zV) {Q' : zQ} (hsp : Sp l w m' h' n' (zf t q :: as) σ Q') (hd : decode m.2.1 pc = .ok (.invokevirtual ix, 3)) (ht : t < 20) (hcl : (vwCl[t]?).map (fun q => q.1) = some m'.1.cls) (hw : zCwV m.1.cls ix m') (hm : zMok m' np) (hnp : as.length = np) (hst : (st.map zcat).sum ≤ 8) (hf : zfit M m' h' n' k)
    (kret : ∀ (r : Option zV) (τ : zS), Q' (.inl r) τ → zX l w m M (pc + 3) ls (r.toList ++ st) (k + n') τ) (kthr : ∀ (E : String) (τ : zS), Q' (.inr E) τ → zXT l w m M pc ls (k + n') τ E) :
    zX l w m M pc ls (as.reverse ++ zf t q :: st) k σ := zx_callV hsp hd ht hcl hw hm hnp hst hf kret kthr
/-- what a method says, weakened -/
theorem zSp_mono {h n : Nat} {as : List zV} {Q Q' : zQ} (hsp : Sp l w m h n as σ Q) (hQ : ∀ o τ, Q o τ → Q' o τ) : Sp l w m h n as σ Q' := by
  intro p e ha hc hk s m args below hf happ hp hK
  obtain ⟨n, o, h1, h2, h3, h4⟩ := hsp p e ha hc hk s m args below hf happ hp hK
  refine ⟨n, o, h1, h2, h3, ?_⟩
  rcases h4 with ⟨⟨r, τ, g1, g2, g3⟩, h5⟩ | ⟨q, h5, E, ce, L, ⟨τ, hq, g⟩, h6⟩
  · exact Or.inl ⟨⟨r, τ, g1, hQ _ _ g2, g3⟩, h5⟩
  · exact Or.inr ⟨q, h5, E, ce, L, ⟨τ, hQ _ _ hq, g⟩, h6⟩
end ZY
theorem zput_e (σ : zS) (k i : Nat) (v : Int) (k' i' : Nat) : (zput σ k i v).1 k' i' = if k' = k ∧ i' = i then v else σ.1 k' i' := rfl
theorem zcpy_e (σ : zS) (q0 q1 n k i : Nat) : (zcpy σ q0 q1 n).1 k i = if k = q1 ∧ i < n then σ.1 q0 i else σ.1 k i := rfl
theorem zcpy_h (σ : zS) (q0 q1 : Nat) {n : Nat} (i : Nat) (h : i < n) : (zcpy σ q0 q1 n).1 q1 i = σ.1 q0 i := by rw [zcpy_e, if_pos ⟨rfl, h⟩]
theorem zcpy_k (σ : zS) (q0 q1 n : Nat) {k : Nat} (i : Nat) (h : k ≠ q1) : (zcpy σ q0 q1 n).1 k i = σ.1 k i := by rw [zcpy_e, if_neg (fun q => h q.1)]
def zSame (S : Nat → Prop) (σ τ : zS) : Prop := (∀ k, ¬ S k → ∀ i, τ.1 k i = σ.1 k i) ∧ τ.2 = σ.2
theorem zSame_rf (S : Nat → Prop) (σ : zS) : zSame S σ σ := ⟨fun _ _ _ => rfl, rfl⟩
theorem zSame_tr {S S' S'' : Nat → Prop} {σ τ υ : zS} (h : zSame S σ τ) (h' : zSame S' τ υ) (hs : ∀ k, S k ∨ S' k → S'' k) : zSame S'' σ υ := ⟨fun k hk i => (h'.1 k (fun q => hk (hs k (Or.inr q))) i).trans (h.1 k (fun q => hk (hs k (Or.inl q))) i), h'.2.trans h.2⟩
section ZY2
variable {l : Launch} {w : zW} {m : zM} {M : zMo} {pc k : Nat} {ls st : List zV} {σ : zS}
def zqv (r : Option zV) (R : zS → Prop) : zQ := fun o τ => o = .inl r ∧ R τ
theorem zy_cvR {m' : zM} {h' n' ix t q np : Nat} (as : List zV) {v : zV} {R : zS → Prop} (hsp : Sp l w m' h' n' (zf t q :: as) σ (zqv (some v) R)) (hd : decode m.2.1 pc = .ok (.invokevirtual ix, 3)) (ht : t < 20) (hcl : (vwCl[t]?).map (fun q => q.1) = some m'.1.cls) (hw : zCwV m.1.cls ix m') (hm : zMok m' np) (hnp : as.length = np) (hst : (st.map zcat).sum ≤ 8) (hf : zfit M m' h' n' k)
    (kk : ∀ τ, R τ → zX l w m M (pc + 3) ls (v :: st) (k + n') τ) : zX l w m M pc ls (as.reverse ++ zf t q :: st) k σ :=
  zx_callV hsp hd ht hcl hw hm hnp hst hf (fun r τ hq => by obtain ⟨h1, h2⟩ := hq; cases h1; exact kk τ h2) (fun E τ hq => by cases hq.1)
theorem zy_cvvR {m' : zM} {h' n' ix t q np : Nat} (as : List zV) {R : zS → Prop} (hsp : Sp l w m' h' n' (zf t q :: as) σ (zqv none R)) (hd : decode m.2.1 pc = .ok (.invokevirtual ix, 3)) (ht : t < 20) (hcl : (vwCl[t]?).map (fun q => q.1) = some m'.1.cls) (hw : zCwV m.1.cls ix m') (hm : zMok m' np) (hnp : as.length = np) (hst : (st.map zcat).sum ≤ 8) (hf : zfit M m' h' n' k)
    (kk : ∀ τ, R τ → zX l w m M (pc + 3) ls st (k + n') τ) : zX l w m M pc ls (as.reverse ++ zf t q :: st) k σ :=
  zx_callV hsp hd ht hcl hw hm hnp hst hf (fun r τ hq => by obtain ⟨h1, h2⟩ := hq; cases h1; exact kk τ h2) (fun E τ hq => by cases hq.1)
theorem zy_csR {m' : zM} {h' n' ix np : Nat} (as : List zV) {v : zV} {R : zS → Prop} (hsp : Sp l w m' h' n' as σ (zqv (some v) R)) (hd : decode m.2.1 pc = .ok (.invokestatic ix, 3)) (hw : zCwS m.1.cls ix m') (hm : zMok m' np) (hnp : as.length = np) (hst : (st.map zcat).sum ≤ 8) (hf : zfit M m' h' n' k)
    (kk : ∀ τ, R τ → zX l w m M (pc + 3) ls (v :: st) (k + n') τ) : zX l w m M pc ls (as.reverse ++ st) k σ :=
  zx_callS hsp hd hw hm hnp hst hf (fun r τ hq => by obtain ⟨h1, h2⟩ := hq; cases h1; exact kk τ h2) (fun E τ hq => by cases hq.1)
theorem zy_csvR {m' : zM} {h' n' ix np : Nat} (as : List zV) {R : zS → Prop} (hsp : Sp l w m' h' n' as σ (zqv none R)) (hd : decode m.2.1 pc = .ok (.invokestatic ix, 3)) (hw : zCwS m.1.cls ix m') (hm : zMok m' np) (hnp : as.length = np) (hst : (st.map zcat).sum ≤ 8) (hf : zfit M m' h' n' k)
    (kk : ∀ τ, R τ → zX l w m M (pc + 3) ls st (k + n') τ) : zX l w m M pc ls (as.reverse ++ st) k σ :=
  zx_callS hsp hd hw hm hnp hst hf (fun r τ hq => by obtain ⟨h1, h2⟩ := hq; cases h1; exact kk τ h2) (fun E τ hq => by cases hq.1)
/-- text: length and charAt are called on a literal -/
theorem zy_str {m' : zM} {h' n' ix j np : Nat} (as : List zV) {v : zV} {τ0 : zS} (hsp : Sp l w m' h' n' (zf 100 j :: as) σ (zret v τ0)) (hd : decode m.2.1 pc = .ok (.invokevirtual ix, 3)) (hcl : m'.1.cls = "java/lang/String") (hw : zCwV m.1.cls ix m') (hm : zMok m' np) (hnp : as.length = np) (hst : (st.map zcat).sum ≤ 8) (hf : zfit M m' h' n' k)
    (kk : zX l w m M (pc + 3) ls (v :: st) (k + n') τ0) : zX l w m M pc ls (as.reverse ++ zf 100 j :: st) k σ := by
  intro p e s mid args below meth c C H locs Ls hR hS hl hol hos hc hs
  obtain ⟨ho1, ho2⟩ := zok_rev hos
  have hj := zok_str (zok_h ho2)
  obtain ⟨hx, hb, hml, hr, htab, hown, hts, hlk, hE, hfl⟩ := id C
  have hrc := vk_recv hE.2.2.2.2.2.2.2.1 hj hS
  rw [← hcl] at hrc
  have hG : GoodIn zgood (wsV m.1.cls ix m'.1.cls m'.1 (zwds m')) := zgood_sub (fun x hx => by
    unfold wsV zwds at hx
    rcases List.mem_append.mp hx with h1 | h1
    · exact hw x (List.mem_append_left [Cond.code m'.1 m'.2.1 m'.2.2.1 m'.2.2.2.1] h1)
    · rcases List.mem_cons.mp h1 with h2 | h2
      · exact hw x (by rw [h2]; simp)
      · exact h2)
  rw [zrev, List.map_cons]
  refine zx_go C hS hl hol (zok_t ho2) (vx_runV (As := as.map (zc w)) (b := zT w j) ⟨hx, hb, hml, hown, hts⟩ hsp (cwV np hts hG rfl rfl rfl ⟨rfl, hm.1, hm.2.1, hm.2.2⟩ ⟨hf.1, hf.2.1⟩) ⟨zPc_blind w σ _, hrc, fun U hU hW => ⟨rfl, by rw [hU]; exact hR, zEnv_go hE hW hS hU, fun x hx => ?_⟩⟩ rfl (by rw [List.length_map, hnp]) hl.1 rfl (lv_room (zsum_c w hst)) hd ⟨by have := hf.2.2.1; omega, by have := hf.2.2.2; omega⟩) hf.2.2.1 hf.2.2.2 (fun r τ hq => by obtain ⟨h1, rfl⟩ := hq; cases h1; exact kk) (fun E τ hq => by cases hq.1)
  rcases List.mem_cons.mp hx with h1 | h1
  · rw [h1]; exact zok_h ho2
  · exact ho1 x h1
end ZY2
