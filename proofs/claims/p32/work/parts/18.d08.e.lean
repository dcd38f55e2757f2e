/-! Pure: count and frog answer alike where the houses are alike. -/
