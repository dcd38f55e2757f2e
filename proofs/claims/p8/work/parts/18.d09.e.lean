/-! dry() alike. -/
