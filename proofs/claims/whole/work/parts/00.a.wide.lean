/-! WIDE: names a row of the float laws, so that a round is read over the whole library from its first part on -/
theorem wide_fp {a : UInt64} (h : FP.Core.val64 a ≠ .nan) : FP.dcmp a a = some .eq := FP.Core.dcmp_self h
