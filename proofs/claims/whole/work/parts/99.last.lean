/-! last -/
