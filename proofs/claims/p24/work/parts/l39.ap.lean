abbrev apW (X pl : va_W) : va_W := X ++ pl
