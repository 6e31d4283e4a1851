/-! the share of high is a number: every pair, by the kernel -/
set_option maxHeartbeats 40000000 in
set_option maxRecDepth 100000 in
theorem nan_all : ∀ a, a < 7 → ∀ b, b < 7 → ∀ h, h < binN (a + b) a + 1 → 0 < h → (FP.ddiv (FP.i2d (nI h)) (FP.i2d (nI (binN (a + b) a))) &&& 0x7fffffffffffffff) ≤ (0x7ff0000000000000 : UInt64) := by decide +kernel
theorem nan_ok {A B : List Nat} (hA : A.length ≤ 6) (hB : B.length ≤ 6) {h : Nat} (h0 : 0 < h) (h1 : h ≤ alN A B) : vf_n64 (FP.ddiv (FP.i2d (nI h)) (FP.i2d (nI (alN A B)))) := by
  rw [alN_eq] at h1 ⊢
  exact nan_all _ (by omega) _ (by omega) h (by omega) h0
