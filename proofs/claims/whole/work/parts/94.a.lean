/-! the law's loop: its world, its blocks, its numbers -/
abbrev kG (K : Nat → Option (CA × CS)) : Nat → Option Nat := fun s => (K s).map (fun q => cO q.1)
abbrev lRo (Y : Nat → ClassId) (ad : OA) (K : Nat → Option (CA × CS)) (ma : MA) (S : MS) (ou : Nat) (f : Nat → Int64) : va_W := kW Y (oKp ad) (kG K) ++ (kB Y (K 0) ++ (kB Y (K 1) ++ (kB Y (K 2) ++ (mW Y ma S ++ lW Y ou f))))
abbrev lwW (Y : Nat → ClassId) (ad : OA) (t : OS) (K : Nat → Option (CA × CS)) (ma : MA) (S : MS) (ou : Nat) (f : Nat → Int64) : va_W := oW Y ad t ++ lRo Y ad K ma S ou f
theorem pM (o k a b c m w : va_W) : (o ++ (k ++ (a ++ (b ++ (c ++ (m ++ w)))))).Perm (m ++ (o ++ (k ++ (a ++ (b ++ (c ++ w)))))) := perm_cnt (fun f hf => by simp only [hf]; omega)
theorem pL (o k a b c m w : va_W) : (o ++ (k ++ (a ++ (b ++ (c ++ (m ++ w)))))).Perm ((o ++ w) ++ (k ++ (a ++ (b ++ (c ++ m))))) := perm_cnt (fun f hf => by simp only [hf]; omega)
theorem pK1 (o k a b c m : va_W) : (o ++ (k ++ (a ++ (b ++ (c ++ m))))).Perm (o ++ (k ++ (b ++ (a ++ (c ++ m))))) := perm_cnt (fun f hf => by simp only [hf]; omega)
theorem pK2 (o k a b c m : va_W) : (o ++ (k ++ (a ++ (b ++ (c ++ m))))).Perm (o ++ (k ++ (c ++ (a ++ (b ++ m))))) := perm_cnt (fun f hf => by simp only [hf]; omega)
section LWB
variable {D : va_G} {Y : Nat → ClassId} {A : Nat → Prop} {H H0 H1 : Heap} {locs : List Loc} {ad : OA} {t : OS} {K : Nat → Option (CA × CS)} {ma : MA} {S : MS} {ou : Nat} {f : Nat → Int64}
theorem lM (h : va_P D vwCl (lwW Y ad t K ma S ou f) H ∧ va_D A (lwW Y ad t K ma S ou f)) : va_P D vwCl (mW Y ma S ++ (oW Y ad t ++ (kW Y (oKp ad) (kG K) ++ (kB Y (K 0) ++ (kB Y (K 1) ++ (kB Y (K 2) ++ lW Y ou f)))))) H ∧ va_D A (mW Y ma S ++ (oW Y ad t ++ (kW Y (oKp ad) (kG K) ++ (kB Y (K 0) ++ (kB Y (K 1) ++ (kB Y (K 2) ++ lW Y ou f)))))) := va_PD_perm h (pM _ _ _ _ _ _ _)
theorem lM' (h : va_P D vwCl (mW Y ma S ++ (oW Y ad t ++ (kW Y (oKp ad) (kG K) ++ (kB Y (K 0) ++ (kB Y (K 1) ++ (kB Y (K 2) ++ lW Y ou f)))))) H ∧ va_D A (mW Y ma S ++ (oW Y ad t ++ (kW Y (oKp ad) (kG K) ++ (kB Y (K 0) ++ (kB Y (K 1) ++ (kB Y (K 2) ++ lW Y ou f))))))) : va_P D vwCl (lwW Y ad t K ma S ou f) H ∧ va_D A (lwW Y ad t K ma S ou f) := va_PD_perm h (pM _ _ _ _ _ _ _).symm
theorem lL (h : va_P D vwCl (lwW Y ad t K ma S ou f) H ∧ va_D A (lwW Y ad t K ma S ou f)) : va_P D vwCl ((oW Y ad t ++ lW Y ou f) ++ (kW Y (oKp ad) (kG K) ++ (kB Y (K 0) ++ (kB Y (K 1) ++ (kB Y (K 2) ++ mW Y ma S))))) H ∧ va_D A ((oW Y ad t ++ lW Y ou f) ++ (kW Y (oKp ad) (kG K) ++ (kB Y (K 0) ++ (kB Y (K 1) ++ (kB Y (K 2) ++ mW Y ma S))))) := va_PD_perm h (pL _ _ _ _ _ _ _)
theorem lL' (h : va_P D vwCl ((oW Y ad t ++ lW Y ou f) ++ (kW Y (oKp ad) (kG K) ++ (kB Y (K 0) ++ (kB Y (K 1) ++ (kB Y (K 2) ++ mW Y ma S))))) H ∧ va_D A ((oW Y ad t ++ lW Y ou f) ++ (kW Y (oKp ad) (kG K) ++ (kB Y (K 0) ++ (kB Y (K 1) ++ (kB Y (K 2) ++ mW Y ma S)))))) : va_P D vwCl (lwW Y ad t K ma S ou f) H ∧ va_D A (lwW Y ad t K ma S ou f) := va_PD_perm h (pL _ _ _ _ _ _ _).symm
/-- the reference's calls -/
theorem lFm (hP : va_P D vwCl (lwW Y ad t K ma S ou f) H) (hD : va_D A (lwW Y ad t K ma S ou f)) (hS : va_S A H0 H locs) (hA : ∀ q, H0.size ≤ q → A q) : ∀ (u : MS) (H1 : Heap), (∀ q : Nat, q < H.size → ¬ va_A (mW Y ma S) H.size q → H1[q]? = H[q]?) → va_P D vwCl (mW Y ma u) H1 → va_D (va_A (mW Y ma S) H.size) (mW Y ma u) → va_P D vwCl (lwW Y ad t K ma u ou f) H1 ∧ va_D A (lwW Y ad t K ma u ou f) := by
  intro u H1 hk h1 h2
  obtain ⟨a1, a2⟩ := lM ⟨hP, hD⟩
  exact lM' (frBlock a1 a2 hk (va_A_in (va_D_left a2) hS hA) h1 h2)
/-- the class's calls that see only its own cells -/
theorem lFo (hP : va_P D vwCl (lwW Y ad t K ma S ou f) H) (hD : va_D A (lwW Y ad t K ma S ou f)) (hS : va_S A H0 H locs) (hA : ∀ q, H0.size ≤ q → A q) : ∀ (u : OS) (H1 : Heap), (∀ q : Nat, q < H.size → ¬ va_A (oW Y ad t) H.size q → H1[q]? = H[q]?) → va_P D vwCl (oW Y ad u) H1 → va_D (va_A (oW Y ad t) H.size) (oW Y ad u) → va_P D vwCl (lwW Y ad u K ma S ou f) H1 ∧ va_D A (lwW Y ad u K ma S ou f) :=
  fun _ _ hk h1 h2 => frBlock hP hD hk (va_A_in (va_D_left hD) hS hA) h1 h2
theorem lFl (hP : va_P D vwCl (lwW Y ad t K ma S ou f) H) (hD : va_D A (lwW Y ad t K ma S ou f)) (hS : va_S A H0 H locs) (hA : ∀ q, H0.size ≤ q → A q) : ∀ (u : Nat → Int64) (H1 : Heap), (∀ q : Nat, q < H.size → ¬ va_A (oW Y ad t ++ lW Y ou f) H.size q → H1[q]? = H[q]?) → va_P D vwCl (oW Y ad t ++ lW Y ou u) H1 → va_D (va_A (oW Y ad t ++ lW Y ou f) H.size) (oW Y ad t ++ lW Y ou u) → va_P D vwCl (lwW Y ad t K ma S ou u) H1 ∧ va_D A (lwW Y ad t K ma S ou u) := by
  intro u H1 hk h1 h2
  obtain ⟨a1, a2⟩ := lL ⟨hP, hD⟩
  exact lL' (frBlock a1 a2 hk (va_A_in (va_D_left a2) hS hA) h1 h2)
/-- the blocks beside the one of save s -/
def kO (Y : Nat → ClassId) (K : Nat → Option (CA × CS)) : Nat → va_W
  | 0 => kB Y (K 1) ++ kB Y (K 2)
  | 1 => kB Y (K 0) ++ kB Y (K 2)
  | _ => kB Y (K 0) ++ kB Y (K 1)
theorem lK (s : Nat) (hs : s < 3) (h : va_P D vwCl (lwW Y ad t K ma S ou f) H ∧ va_D A (lwW Y ad t K ma S ou f)) : va_P D vwCl (oW Y ad t ++ (kW Y (oKp ad) (kG K) ++ (kB Y (K s) ++ (kO Y K s ++ (mW Y ma S ++ lW Y ou f))))) H ∧ va_D A (oW Y ad t ++ (kW Y (oKp ad) (kG K) ++ (kB Y (K s) ++ (kO Y K s ++ (mW Y ma S ++ lW Y ou f))))) := by
  rcases (show s = 0 ∨ s = 1 ∨ s = 2 by omega) with rfl | rfl | rfl
  · exact va_PD_perm h (perm_cnt (fun f hf => by simp only [kO, hf]; omega))
  · exact va_PD_perm h (perm_cnt (fun f hf => by simp only [kO, hf]; omega))
  · exact va_PD_perm h (perm_cnt (fun f hf => by simp only [kO, hf]; omega))
theorem lK' (s : Nat) (hs : s < 3) (h : va_P D vwCl (oW Y ad t ++ (kW Y (oKp ad) (kG K) ++ (kB Y (K s) ++ (kO Y K s ++ (mW Y ma S ++ lW Y ou f))))) H ∧ va_D A (oW Y ad t ++ (kW Y (oKp ad) (kG K) ++ (kB Y (K s) ++ (kO Y K s ++ (mW Y ma S ++ lW Y ou f)))))) : va_P D vwCl (lwW Y ad t K ma S ou f) H ∧ va_D A (lwW Y ad t K ma S ou f) := by
  rcases (show s = 0 ∨ s = 1 ∨ s = 2 by omega) with rfl | rfl | rfl
  · exact va_PD_perm h (perm_cnt (fun f hf => by simp only [kO, hf]; omega))
  · exact va_PD_perm h (perm_cnt (fun f hf => by simp only [kO, hf]; omega))
  · exact va_PD_perm h (perm_cnt (fun f hf => by simp only [kO, hf]; omega))
end LWB
theorem kO_up (Y : Nat → ClassId) (K : Nat → Option (CA × CS)) (s : Nat) (hs : s < 3) (q : Option (CA × CS)) : kO Y (va_up K s q) s = kO Y K s := by
  rcases (show s = 0 ∨ s = 1 ∨ s = 2 by omega) with rfl | rfl | rfl
  · show kB Y (va_up K 0 q 1) ++ kB Y (va_up K 0 q 2) = _
    rw [show va_up K 0 q 1 = K 1 from if_neg (by decide), show va_up K 0 q 2 = K 2 from if_neg (by decide)]
    rfl
  · show kB Y (va_up K 1 q 0) ++ kB Y (va_up K 1 q 2) = _
    rw [show va_up K 1 q 0 = K 0 from if_neg (by decide), show va_up K 1 q 2 = K 2 from if_neg (by decide)]
    rfl
  · show kB Y (va_up K 2 q 0) ++ kB Y (va_up K 2 q 1) = _
    rw [show va_up K 2 q 0 = K 0 from if_neg (by decide), show va_up K 2 q 1 = K 1 from if_neg (by decide)]
    rfl
theorem kG_up (K : Nat → Option (CA × CS)) (s : Nat) (q : CA × CS) : va_up (kG K) s (some (cO q.1)) = kG (va_up K s (some q)) := by
  funext i
  show (if i = s then _ else _) = ((if i = s then _ else _ : Option (CA × CS)).map _)
  split <;> rfl
