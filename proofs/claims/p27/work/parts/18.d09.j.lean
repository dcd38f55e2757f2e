/-! roots() alike. -/
