/-! Words and ranges that came later. -/

